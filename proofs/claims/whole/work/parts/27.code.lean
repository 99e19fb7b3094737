theorem dX9_marks_0 : decode cX9_marks 0 = .ok (.iload_n 1, 1) := by decide +kernel
theorem dX9_marks_1 : decode cX9_marks 1 = .ok (.invokestatic 200, 3) := by decide +kernel
theorem dX9_marks_4 : decode cX9_marks 4 = .ok (.ifCond .eq 11, 3) := by decide +kernel
theorem dX9_marks_7 : decode cX9_marks 7 = .ok (.aload_n 0, 1) := by decide +kernel
theorem dX9_marks_8 : decode cX9_marks 8 = .ok (.iload_n 2, 1) := by decide +kernel
theorem dX9_marks_9 : decode cX9_marks 9 = .ok (.invokevirtual 346, 3) := by decide +kernel
theorem dX9_marks_12 : decode cX9_marks 12 = .ok (.ifCond .ne 5, 3) := by decide +kernel
theorem dX9_marks_15 : decode cX9_marks 15 = .ok (.iconst (-1), 1) := by decide +kernel
theorem dX9_marks_16 : decode cX9_marks 16 = .ok (.ireturn, 1) := by decide +kernel
theorem dX9_marks_17 : decode cX9_marks 17 = .ok (.aload_n 0, 1) := by decide +kernel
theorem dX9_marks_18 : decode cX9_marks 18 = .ok (.iload_n 1, 1) := by decide +kernel
theorem dX9_marks_19 : decode cX9_marks 19 = .ok (.iload_n 2, 1) := by decide +kernel
theorem dX9_marks_20 : decode cX9_marks 20 = .ok (.iload_n 3, 1) := by decide +kernel
theorem dX9_marks_21 : decode cX9_marks 21 = .ok (.iload 4, 2) := by decide +kernel
theorem dX9_marks_23 : decode cX9_marks 23 = .ok (.invokevirtual 480, 3) := by decide +kernel
theorem dX9_marks_26 : decode cX9_marks 26 = .ok (.pop2, 1) := by decide +kernel
theorem dX9_marks_27 : decode cX9_marks 27 = .ok (.aload_n 0, 1) := by decide +kernel
theorem dX9_marks_28 : decode cX9_marks 28 = .ok (.getfield 477, 3) := by decide +kernel
theorem dX9_marks_31 : decode cX9_marks 31 = .ok (.ireturn, 1) := by decide +kernel
theorem dX9_owed_0 : decode cX9_owed 0 = .ok (.iload_n 1, 1) := by decide +kernel
theorem dX9_owed_1 : decode cX9_owed 1 = .ok (.invokestatic 200, 3) := by decide +kernel
theorem dX9_owed_4 : decode cX9_owed 4 = .ok (.ifCond .eq 12, 3) := by decide +kernel
theorem dX9_owed_7 : decode cX9_owed 7 = .ok (.aload_n 0, 1) := by decide +kernel
theorem dX9_owed_8 : decode cX9_owed 8 = .ok (.iload_n 2, 1) := by decide +kernel
theorem dX9_owed_9 : decode cX9_owed 9 = .ok (.iconst 3, 1) := by decide +kernel
theorem dX9_owed_10 : decode cX9_owed 10 = .ok (.invokevirtual 445, 3) := by decide +kernel
theorem dX9_owed_13 : decode cX9_owed 13 = .ok (.ifCond .ne 5, 3) := by decide +kernel
theorem dX9_owed_16 : decode cX9_owed 16 = .ok (.iconst (-1), 1) := by decide +kernel
theorem dX9_owed_17 : decode cX9_owed 17 = .ok (.ireturn, 1) := by decide +kernel
theorem dX9_owed_18 : decode cX9_owed 18 = .ok (.aload_n 0, 1) := by decide +kernel
theorem dX9_owed_19 : decode cX9_owed 19 = .ok (.iload_n 1, 1) := by decide +kernel
theorem dX9_owed_20 : decode cX9_owed 20 = .ok (.aload_n 0, 1) := by decide +kernel
theorem dX9_owed_21 : decode cX9_owed 21 = .ok (.getfield 126, 3) := by decide +kernel
theorem dX9_owed_24 : decode cX9_owed 24 = .ok (.iload_n 2, 1) := by decide +kernel
theorem dX9_owed_25 : decode cX9_owed 25 = .ok (.iaload, 1) := by decide +kernel
theorem dX9_owed_26 : decode cX9_owed 26 = .ok (.iload_n 3, 1) := by decide +kernel
theorem dX9_owed_27 : decode cX9_owed 27 = .ok (.iload 4, 2) := by decide +kernel
theorem dX9_owed_29 : decode cX9_owed 29 = .ok (.invokevirtual 425, 3) := by decide +kernel
theorem dX9_owed_32 : decode cX9_owed 32 = .ok (.aload_n 0, 1) := by decide +kernel
theorem dX9_owed_33 : decode cX9_owed 33 = .ok (.iload_n 1, 1) := by decide +kernel
theorem dX9_owed_34 : decode cX9_owed 34 = .ok (.iload_n 2, 1) := by decide +kernel
theorem dX9_owed_35 : decode cX9_owed 35 = .ok (.iload 4, 2) := by decide +kernel
theorem dX9_owed_37 : decode cX9_owed 37 = .ok (.invokevirtual 451, 3) := by decide +kernel
theorem dX9_owed_40 : decode cX9_owed 40 = .ok (.ireturn, 1) := by decide +kernel
theorem dX9_pay_0 : decode cX9_pay 0 = .ok (.aload_n 0, 1) := by decide +kernel
theorem dX9_pay_1 : decode cX9_pay 1 = .ok (.iload_n 1, 1) := by decide +kernel
theorem dX9_pay_2 : decode cX9_pay 2 = .ok (.invokevirtual 346, 3) := by decide +kernel
theorem dX9_pay_5 : decode cX9_pay 5 = .ok (.ifCond .eq 54, 3) := by decide +kernel
theorem dX9_pay_8 : decode cX9_pay 8 = .ok (.iload_n 2, 1) := by decide +kernel
theorem dX9_pay_9 : decode cX9_pay 9 = .ok (.invokestatic 349, 3) := by decide +kernel
theorem dX9_pay_12 : decode cX9_pay 12 = .ok (.ifCond .eq 47, 3) := by decide +kernel
theorem dX9_pay_15 : decode cX9_pay 15 = .ok (.iload_n 3, 1) := by decide +kernel
theorem dX9_pay_16 : decode cX9_pay 16 = .ok (.iconst 0, 1) := by decide +kernel
theorem dX9_pay_17 : decode cX9_pay 17 = .ok (.iconst 5, 1) := by decide +kernel
theorem dX9_pay_18 : decode cX9_pay 18 = .ok (.invokestatic 333, 3) := by decide +kernel
theorem dX9_pay_21 : decode cX9_pay 21 = .ok (.ifCond .eq 38, 3) := by decide +kernel
theorem dX9_pay_24 : decode cX9_pay 24 = .ok (.iload 4, 2) := by decide +kernel
theorem dX9_pay_26 : decode cX9_pay 26 = .ok (.iconst 0, 1) := by decide +kernel
theorem dX9_pay_27 : decode cX9_pay 27 = .ok (.iload_n 3, 1) := by decide +kernel
theorem dX9_pay_28 : decode cX9_pay 28 = .ok (.iconst 5, 1) := by decide +kernel
theorem dX9_pay_29 : decode cX9_pay 29 = .ok (.if_icmp .ne 8, 3) := by decide +kernel
theorem dX9_pay_32 : decode cX9_pay 32 = .ok (.bipush 99, 2) := by decide +kernel
theorem dX9_pay_34 : decode cX9_pay 34 = .ok (.goto 6, 3) := by decide +kernel
theorem dX9_pay_37 : decode cX9_pay 37 = .ok (.sipush 9999, 3) := by decide +kernel
theorem dX9_pay_40 : decode cX9_pay 40 = .ok (.invokestatic 333, 3) := by decide +kernel
theorem dX9_pay_43 : decode cX9_pay 43 = .ok (.ifCond .eq 16, 3) := by decide +kernel
theorem dX9_pay_46 : decode cX9_pay 46 = .ok (.aload_n 0, 1) := by decide +kernel
theorem dX9_pay_47 : decode cX9_pay 47 = .ok (.iconst 0, 1) := by decide +kernel
theorem dX9_pay_48 : decode cX9_pay 48 = .ok (.iload_n 1, 1) := by decide +kernel
theorem dX9_pay_49 : decode cX9_pay 49 = .ok (.iload_n 2, 1) := by decide +kernel
theorem dX9_pay_50 : decode cX9_pay 50 = .ok (.iload_n 3, 1) := by decide +kernel
theorem dX9_pay_51 : decode cX9_pay 51 = .ok (.iload 4, 2) := by decide +kernel
theorem dX9_pay_53 : decode cX9_pay 53 = .ok (.invokevirtual 352, 3) := by decide +kernel
theorem dX9_pay_56 : decode cX9_pay 56 = .ok (.goto 4, 3) := by decide +kernel
theorem dX9_pay_59 : decode cX9_pay 59 = .ok (.iconst (-1), 1) := by decide +kernel
theorem dX9_pay_60 : decode cX9_pay 60 = .ok (.ireturn, 1) := by decide +kernel
theorem dX9_payout_0 : decode cX9_payout 0 = .ok (.iload_n 1, 1) := by decide +kernel
theorem dX9_payout_1 : decode cX9_payout 1 = .ok (.invokestatic 200, 3) := by decide +kernel
theorem dX9_payout_4 : decode cX9_payout 4 = .ok (.ifCond .eq 23, 3) := by decide +kernel
theorem dX9_payout_7 : decode cX9_payout 7 = .ok (.aload_n 0, 1) := by decide +kernel
theorem dX9_payout_8 : decode cX9_payout 8 = .ok (.iload_n 2, 1) := by decide +kernel
theorem dX9_payout_9 : decode cX9_payout 9 = .ok (.invokevirtual 346, 3) := by decide +kernel
theorem dX9_payout_12 : decode cX9_payout 12 = .ok (.ifCond .eq 15, 3) := by decide +kernel
theorem dX9_payout_15 : decode cX9_payout 15 = .ok (.aload_n 0, 1) := by decide +kernel
theorem dX9_payout_16 : decode cX9_payout 16 = .ok (.iload_n 1, 1) := by decide +kernel
theorem dX9_payout_17 : decode cX9_payout 17 = .ok (.iload_n 2, 1) := by decide +kernel
theorem dX9_payout_18 : decode cX9_payout 18 = .ok (.iload_n 3, 1) := by decide +kernel
theorem dX9_payout_19 : decode cX9_payout 19 = .ok (.iload 4, 2) := by decide +kernel
theorem dX9_payout_21 : decode cX9_payout 21 = .ok (.invokevirtual 480, 3) := by decide +kernel
theorem dX9_payout_24 : decode cX9_payout 24 = .ok (.goto 6, 3) := by decide +kernel
theorem dX9_payout_27 : decode cX9_payout 27 = .ok (.ldc2_w 472, 3) := by decide +kernel
theorem dX9_payout_30 : decode cX9_payout 30 = .ok (.lreturn, 1) := by decide +kernel
theorem dX9_quarrel_0 : decode cX9_quarrel 0 = .ok (.aload_n 0, 1) := by decide +kernel
theorem dX9_quarrel_1 : decode cX9_quarrel 1 = .ok (.iload_n 1, 1) := by decide +kernel
theorem dX9_quarrel_2 : decode cX9_quarrel 2 = .ok (.invokevirtual 346, 3) := by decide +kernel
theorem dX9_quarrel_5 : decode cX9_quarrel 5 = .ok (.ifCond .ne 6, 3) := by decide +kernel
theorem dX9_quarrel_8 : decode cX9_quarrel 8 = .ok (.bipush (-2), 2) := by decide +kernel
theorem dX9_quarrel_10 : decode cX9_quarrel 10 = .ok (.ireturn, 1) := by decide +kernel
theorem dX9_quarrel_11 : decode cX9_quarrel 11 = .ok (.aload_n 0, 1) := by decide +kernel
theorem dX9_quarrel_12 : decode cX9_quarrel 12 = .ok (.iload_n 1, 1) := by decide +kernel
theorem dX9_quarrel_13 : decode cX9_quarrel 13 = .ok (.iload_n 2, 1) := by decide +kernel
theorem dX9_quarrel_14 : decode cX9_quarrel 14 = .ok (.invokevirtual 403, 3) := by decide +kernel
theorem dX9_quarrel_17 : decode cX9_quarrel 17 = .ok (.aload_n 0, 1) := by decide +kernel
theorem dX9_quarrel_18 : decode cX9_quarrel 18 = .ok (.getfield 369, 3) := by decide +kernel
theorem dX9_quarrel_21 : decode cX9_quarrel 21 = .ok (.ireturn, 1) := by decide +kernel
theorem dX9_quarrels_0 : decode cX9_quarrels 0 = .ok (.iload_n 1, 1) := by decide +kernel
theorem dX9_quarrels_1 : decode cX9_quarrels 1 = .ok (.invokestatic 200, 3) := by decide +kernel
theorem dX9_quarrels_4 : decode cX9_quarrels 4 = .ok (.ifCond .eq 30, 3) := by decide +kernel
theorem dX9_quarrels_7 : decode cX9_quarrels 7 = .ok (.iload_n 2, 1) := by decide +kernel
theorem dX9_quarrels_8 : decode cX9_quarrels 8 = .ok (.invokestatic 200, 3) := by decide +kernel
theorem dX9_quarrels_11 : decode cX9_quarrels 11 = .ok (.ifCond .eq 23, 3) := by decide +kernel
theorem dX9_quarrels_14 : decode cX9_quarrels 14 = .ok (.aload_n 0, 1) := by decide +kernel
theorem dX9_quarrels_15 : decode cX9_quarrels 15 = .ok (.iload_n 1, 1) := by decide +kernel
theorem dX9_quarrels_16 : decode cX9_quarrels 16 = .ok (.iload_n 3, 1) := by decide +kernel
theorem dX9_quarrels_17 : decode cX9_quarrels 17 = .ok (.iload 4, 2) := by decide +kernel
theorem dX9_quarrels_19 : decode cX9_quarrels 19 = .ok (.invokevirtual 484, 3) := by decide +kernel
theorem dX9_quarrels_22 : decode cX9_quarrels 22 = .ok (.aload_n 0, 1) := by decide +kernel
theorem dX9_quarrels_23 : decode cX9_quarrels 23 = .ok (.iload_n 2, 1) := by decide +kernel
theorem dX9_quarrels_24 : decode cX9_quarrels 24 = .ok (.iload_n 3, 1) := by decide +kernel
theorem dX9_quarrels_25 : decode cX9_quarrels 25 = .ok (.iload 4, 2) := by decide +kernel
theorem dX9_quarrels_27 : decode cX9_quarrels 27 = .ok (.invokevirtual 484, 3) := by decide +kernel
theorem dX9_quarrels_30 : decode cX9_quarrels 30 = .ok (.lsub, 1) := by decide +kernel
theorem dX9_quarrels_31 : decode cX9_quarrels 31 = .ok (.goto 6, 3) := by decide +kernel
theorem dX9_quarrels_34 : decode cX9_quarrels 34 = .ok (.ldc2_w 488, 3) := by decide +kernel
theorem dX9_quarrels_37 : decode cX9_quarrels 37 = .ok (.lreturn, 1) := by decide +kernel
theorem dX9_settledBy_0 : decode cX9_settledBy 0 = .ok (.iconst 0, 1) := by decide +kernel
theorem dX9_settledBy_1 : decode cX9_settledBy 1 = .ok (.istore_n 2, 1) := by decide +kernel
theorem dX9_settledBy_2 : decode cX9_settledBy 2 = .ok (.lconst 0, 1) := by decide +kernel
theorem dX9_settledBy_3 : decode cX9_settledBy 3 = .ok (.lstore_n 3, 1) := by decide +kernel
theorem dX9_settledBy_4 : decode cX9_settledBy 4 = .ok (.iconst 0, 1) := by decide +kernel
theorem dX9_settledBy_5 : decode cX9_settledBy 5 = .ok (.istore 5, 2) := by decide +kernel
theorem dX9_settledBy_7 : decode cX9_settledBy 7 = .ok (.iload 5, 2) := by decide +kernel
theorem dX9_settledBy_9 : decode cX9_settledBy 9 = .ok (.aload_n 0, 1) := by decide +kernel
theorem dX9_settledBy_10 : decode cX9_settledBy 10 = .ok (.getfield 337, 3) := by decide +kernel
theorem dX9_settledBy_13 : decode cX9_settledBy 13 = .ok (.if_icmp .ge 29, 3) := by decide +kernel
theorem dX9_settledBy_16 : decode cX9_settledBy 16 = .ok (.iload_n 1, 1) := by decide +kernel
theorem dX9_settledBy_17 : decode cX9_settledBy 17 = .ok (.iload 5, 2) := by decide +kernel
theorem dX9_settledBy_19 : decode cX9_settledBy 19 = .ok (.ishr, 1) := by decide +kernel
theorem dX9_settledBy_20 : decode cX9_settledBy 20 = .ok (.iconst 1, 1) := by decide +kernel
theorem dX9_settledBy_21 : decode cX9_settledBy 21 = .ok (.iand, 1) := by decide +kernel
theorem dX9_settledBy_22 : decode cX9_settledBy 22 = .ok (.iconst 1, 1) := by decide +kernel
theorem dX9_settledBy_23 : decode cX9_settledBy 23 = .ok (.if_icmp .ne 13, 3) := by decide +kernel
theorem dX9_settledBy_26 : decode cX9_settledBy 26 = .ok (.iload_n 2, 1) := by decide +kernel
theorem dX9_settledBy_27 : decode cX9_settledBy 27 = .ok (.aload_n 0, 1) := by decide +kernel
theorem dX9_settledBy_28 : decode cX9_settledBy 28 = .ok (.getfield 193, 3) := by decide +kernel
theorem dX9_settledBy_31 : decode cX9_settledBy 31 = .ok (.iload 5, 2) := by decide +kernel
theorem dX9_settledBy_33 : decode cX9_settledBy 33 = .ok (.iaload, 1) := by decide +kernel
theorem dX9_settledBy_34 : decode cX9_settledBy 34 = .ok (.ior, 1) := by decide +kernel
theorem dX9_settledBy_35 : decode cX9_settledBy 35 = .ok (.istore_n 2, 1) := by decide +kernel
theorem dX9_settledBy_36 : decode cX9_settledBy 36 = .ok (.iinc 5 1, 3) := by decide +kernel
theorem dX9_settledBy_39 : decode cX9_settledBy 39 = .ok (.goto (-32), 3) := by decide +kernel
theorem dX9_settledBy_42 : decode cX9_settledBy 42 = .ok (.iconst 0, 1) := by decide +kernel
theorem dX9_settledBy_43 : decode cX9_settledBy 43 = .ok (.istore 5, 2) := by decide +kernel
theorem dX9_settledBy_45 : decode cX9_settledBy 45 = .ok (.iload 5, 2) := by decide +kernel
theorem dX9_settledBy_47 : decode cX9_settledBy 47 = .ok (.aload_n 0, 1) := by decide +kernel
theorem dX9_settledBy_48 : decode cX9_settledBy 48 = .ok (.getfield 337, 3) := by decide +kernel
theorem dX9_settledBy_51 : decode cX9_settledBy 51 = .ok (.if_icmp .ge 33, 3) := by decide +kernel
theorem dX9_settledBy_54 : decode cX9_settledBy 54 = .ok (.aload_n 0, 1) := by decide +kernel
theorem dX9_settledBy_55 : decode cX9_settledBy 55 = .ok (.getfield 193, 3) := by decide +kernel
theorem dX9_settledBy_58 : decode cX9_settledBy 58 = .ok (.iload 5, 2) := by decide +kernel
theorem dX9_settledBy_60 : decode cX9_settledBy 60 = .ok (.iaload, 1) := by decide +kernel
theorem dX9_settledBy_61 : decode cX9_settledBy 61 = .ok (.iload_n 2, 1) := by decide +kernel
theorem dX9_settledBy_62 : decode cX9_settledBy 62 = .ok (.iconst (-1), 1) := by decide +kernel
theorem dX9_settledBy_63 : decode cX9_settledBy 63 = .ok (.ixor, 1) := by decide +kernel
theorem dX9_settledBy_64 : decode cX9_settledBy 64 = .ok (.iand, 1) := by decide +kernel
theorem dX9_settledBy_65 : decode cX9_settledBy 65 = .ok (.ifCond .ne 13, 3) := by decide +kernel
theorem dX9_settledBy_68 : decode cX9_settledBy 68 = .ok (.lload_n 3, 1) := by decide +kernel
theorem dX9_settledBy_69 : decode cX9_settledBy 69 = .ok (.aload_n 0, 1) := by decide +kernel
theorem dX9_settledBy_70 : decode cX9_settledBy 70 = .ok (.getfield 190, 3) := by decide +kernel
theorem dX9_settledBy_73 : decode cX9_settledBy 73 = .ok (.iload 5, 2) := by decide +kernel
theorem dX9_settledBy_75 : decode cX9_settledBy 75 = .ok (.laload, 1) := by decide +kernel
theorem dX9_settledBy_76 : decode cX9_settledBy 76 = .ok (.ladd, 1) := by decide +kernel
theorem dX9_settledBy_77 : decode cX9_settledBy 77 = .ok (.lstore_n 3, 1) := by decide +kernel
theorem dX9_settledBy_78 : decode cX9_settledBy 78 = .ok (.iinc 5 1, 3) := by decide +kernel
theorem dX9_settledBy_81 : decode cX9_settledBy 81 = .ok (.goto (-36), 3) := by decide +kernel
theorem dX9_settledBy_84 : decode cX9_settledBy 84 = .ok (.lload_n 3, 1) := by decide +kernel
theorem dX9_settledBy_85 : decode cX9_settledBy 85 = .ok (.lreturn, 1) := by decide +kernel
theorem dX9_seek_0 : decode cX9_seek 0 = .ok (.iload_n 1, 1) := by decide +kernel
theorem dX9_seek_1 : decode cX9_seek 1 = .ok (.invokestatic 200, 3) := by decide +kernel
theorem dX9_seek_4 : decode cX9_seek 4 = .ok (.ifCond .eq 13, 3) := by decide +kernel
theorem dX9_seek_7 : decode cX9_seek 7 = .ok (.iload_n 2, 1) := by decide +kernel
theorem dX9_seek_8 : decode cX9_seek 8 = .ok (.iconst 0, 1) := by decide +kernel
theorem dX9_seek_9 : decode cX9_seek 9 = .ok (.bipush 10, 2) := by decide +kernel
theorem dX9_seek_11 : decode cX9_seek 11 = .ok (.invokestatic 333, 3) := by decide +kernel
theorem dX9_seek_14 : decode cX9_seek 14 = .ok (.ifCond .ne 5, 3) := by decide +kernel
theorem dX9_seek_17 : decode cX9_seek 17 = .ok (.iconst 0, 1) := by decide +kernel
theorem dX9_seek_18 : decode cX9_seek 18 = .ok (.ireturn, 1) := by decide +kernel
theorem dX9_seek_19 : decode cX9_seek 19 = .ok (.iconst 0, 1) := by decide +kernel
theorem dX9_seek_20 : decode cX9_seek 20 = .ok (.istore 5, 2) := by decide +kernel
theorem dX9_seek_22 : decode cX9_seek 22 = .ok (.iload 5, 2) := by decide +kernel
theorem dX9_seek_24 : decode cX9_seek 24 = .ok (.aload_n 0, 1) := by decide +kernel
theorem dX9_seek_25 : decode cX9_seek 25 = .ok (.getfield 337, 3) := by decide +kernel
theorem dX9_seek_28 : decode cX9_seek 28 = .ok (.if_icmp .ge 37, 3) := by decide +kernel
theorem dX9_seek_31 : decode cX9_seek 31 = .ok (.aload_n 0, 1) := by decide +kernel
theorem dX9_seek_32 : decode cX9_seek 32 = .ok (.getfield 190, 3) := by decide +kernel
theorem dX9_seek_35 : decode cX9_seek 35 = .ok (.iload 5, 2) := by decide +kernel
theorem dX9_seek_37 : decode cX9_seek 37 = .ok (.aload_n 0, 1) := by decide +kernel
theorem dX9_seek_38 : decode cX9_seek 38 = .ok (.iload_n 1, 1) := by decide +kernel
theorem dX9_seek_39 : decode cX9_seek 39 = .ok (.iload 5, 2) := by decide +kernel
theorem dX9_seek_41 : decode cX9_seek 41 = .ok (.iload_n 3, 1) := by decide +kernel
theorem dX9_seek_42 : decode cX9_seek 42 = .ok (.iload 4, 2) := by decide +kernel
theorem dX9_seek_44 : decode cX9_seek 44 = .ok (.invokevirtual 480, 3) := by decide +kernel
theorem dX9_seek_47 : decode cX9_seek 47 = .ok (.lastore, 1) := by decide +kernel
theorem dX9_seek_48 : decode cX9_seek 48 = .ok (.aload_n 0, 1) := by decide +kernel
theorem dX9_seek_49 : decode cX9_seek 49 = .ok (.getfield 193, 3) := by decide +kernel
theorem dX9_seek_52 : decode cX9_seek 52 = .ok (.iload 5, 2) := by decide +kernel
theorem dX9_seek_54 : decode cX9_seek 54 = .ok (.aload_n 0, 1) := by decide +kernel
theorem dX9_seek_55 : decode cX9_seek 55 = .ok (.getfield 477, 3) := by decide +kernel
theorem dX9_seek_58 : decode cX9_seek 58 = .ok (.iastore, 1) := by decide +kernel
theorem dX9_seek_59 : decode cX9_seek 59 = .ok (.iinc 5 1, 3) := by decide +kernel
theorem dX9_seek_62 : decode cX9_seek 62 = .ok (.goto (-40), 3) := by decide +kernel
theorem dX9_seek_65 : decode cX9_seek 65 = .ok (.aload_n 0, 1) := by decide +kernel
theorem dX9_seek_66 : decode cX9_seek 66 = .ok (.iconst 0, 1) := by decide +kernel
theorem dX9_seek_67 : decode cX9_seek 67 = .ok (.putfield 490, 3) := by decide +kernel
theorem dX9_seek_70 : decode cX9_seek 70 = .ok (.aload_n 0, 1) := by decide +kernel
theorem dX9_seek_71 : decode cX9_seek 71 = .ok (.aload_n 0, 1) := by decide +kernel
theorem dX9_seek_72 : decode cX9_seek 72 = .ok (.iconst 0, 1) := by decide +kernel
theorem dX9_seek_73 : decode cX9_seek 73 = .ok (.invokevirtual 493, 3) := by decide +kernel
theorem dX9_seek_76 : decode cX9_seek 76 = .ok (.putfield 497, 3) := by decide +kernel
theorem dX9_seek_79 : decode cX9_seek 79 = .ok (.iconst 1, 1) := by decide +kernel
theorem dX9_seek_80 : decode cX9_seek 80 = .ok (.istore 5, 2) := by decide +kernel
theorem dX9_seek_82 : decode cX9_seek 82 = .ok (.iload 5, 2) := by decide +kernel
theorem dX9_seek_84 : decode cX9_seek 84 = .ok (.iconst 1, 1) := by decide +kernel
theorem dX9_seek_85 : decode cX9_seek 85 = .ok (.aload_n 0, 1) := by decide +kernel
theorem dX9_seek_86 : decode cX9_seek 86 = .ok (.getfield 337, 3) := by decide +kernel
theorem dX9_seek_89 : decode cX9_seek 89 = .ok (.ishl, 1) := by decide +kernel
theorem dX9_seek_90 : decode cX9_seek 90 = .ok (.if_icmp .ge 80, 3) := by decide +kernel
theorem dX9_seek_93 : decode cX9_seek 93 = .ok (.aload_n 0, 1) := by decide +kernel
theorem dX9_seek_94 : decode cX9_seek 94 = .ok (.iload 5, 2) := by decide +kernel
theorem dX9_seek_96 : decode cX9_seek 96 = .ok (.iload_n 2, 1) := by decide +kernel
theorem dX9_seek_97 : decode cX9_seek 97 = .ok (.invokevirtual 500, 3) := by decide +kernel
theorem dX9_seek_100 : decode cX9_seek 100 = .ok (.ifCond .ne 6, 3) := by decide +kernel
theorem dX9_seek_103 : decode cX9_seek 103 = .ok (.goto 61, 3) := by decide +kernel
theorem dX9_seek_106 : decode cX9_seek 106 = .ok (.aload_n 0, 1) := by decide +kernel
theorem dX9_seek_107 : decode cX9_seek 107 = .ok (.iload 5, 2) := by decide +kernel
theorem dX9_seek_109 : decode cX9_seek 109 = .ok (.invokevirtual 493, 3) := by decide +kernel
theorem dX9_seek_112 : decode cX9_seek 112 = .ok (.lstore 6, 2) := by decide +kernel
theorem dX9_seek_114 : decode cX9_seek 114 = .ok (.lload 6, 2) := by decide +kernel
theorem dX9_seek_116 : decode cX9_seek 116 = .ok (.aload_n 0, 1) := by decide +kernel
theorem dX9_seek_117 : decode cX9_seek 117 = .ok (.getfield 497, 3) := by decide +kernel
theorem dX9_seek_120 : decode cX9_seek 120 = .ok (.lcmp, 1) := by decide +kernel
theorem dX9_seek_121 : decode cX9_seek 121 = .ok (.ifCond .lt 43, 3) := by decide +kernel
theorem dX9_seek_124 : decode cX9_seek 124 = .ok (.lload 6, 2) := by decide +kernel
theorem dX9_seek_126 : decode cX9_seek 126 = .ok (.aload_n 0, 1) := by decide +kernel
theorem dX9_seek_127 : decode cX9_seek 127 = .ok (.getfield 497, 3) := by decide +kernel
theorem dX9_seek_130 : decode cX9_seek 130 = .ok (.lcmp, 1) := by decide +kernel
theorem dX9_seek_131 : decode cX9_seek 131 = .ok (.ifCond .ne 21, 3) := by decide +kernel
theorem dX9_seek_134 : decode cX9_seek 134 = .ok (.iload 5, 2) := by decide +kernel
theorem dX9_seek_136 : decode cX9_seek 136 = .ok (.invokestatic 397, 3) := by decide +kernel
theorem dX9_seek_139 : decode cX9_seek 139 = .ok (.aload_n 0, 1) := by decide +kernel
theorem dX9_seek_140 : decode cX9_seek 140 = .ok (.getfield 490, 3) := by decide +kernel
theorem dX9_seek_143 : decode cX9_seek 143 = .ok (.invokestatic 397, 3) := by decide +kernel
theorem dX9_seek_146 : decode cX9_seek 146 = .ok (.if_icmp .lt 6, 3) := by decide +kernel
theorem dX9_seek_149 : decode cX9_seek 149 = .ok (.goto 15, 3) := by decide +kernel
theorem dX9_seek_152 : decode cX9_seek 152 = .ok (.aload_n 0, 1) := by decide +kernel
theorem dX9_seek_153 : decode cX9_seek 153 = .ok (.iload 5, 2) := by decide +kernel
theorem dX9_seek_155 : decode cX9_seek 155 = .ok (.putfield 490, 3) := by decide +kernel
theorem dX9_seek_158 : decode cX9_seek 158 = .ok (.aload_n 0, 1) := by decide +kernel
theorem dX9_seek_159 : decode cX9_seek 159 = .ok (.lload 6, 2) := by decide +kernel
theorem dX9_seek_161 : decode cX9_seek 161 = .ok (.putfield 497, 3) := by decide +kernel
theorem dX9_seek_164 : decode cX9_seek 164 = .ok (.iinc 5 1, 3) := by decide +kernel
theorem dX9_seek_167 : decode cX9_seek 167 = .ok (.goto (-85), 3) := by decide +kernel
theorem dX9_seek_170 : decode cX9_seek 170 = .ok (.iconst 1, 1) := by decide +kernel
theorem dX9_seek_171 : decode cX9_seek 171 = .ok (.ireturn, 1) := by decide +kernel
theorem dX9_settle_0 : decode cX9_settle 0 = .ok (.aload_n 0, 1) := by decide +kernel
theorem dX9_settle_1 : decode cX9_settle 1 = .ok (.iload_n 1, 1) := by decide +kernel
theorem dX9_settle_2 : decode cX9_settle 2 = .ok (.invokevirtual 346, 3) := by decide +kernel
theorem dX9_settle_5 : decode cX9_settle 5 = .ok (.ifCond .eq 37, 3) := by decide +kernel
theorem dX9_settle_8 : decode cX9_settle 8 = .ok (.iload_n 2, 1) := by decide +kernel
theorem dX9_settle_9 : decode cX9_settle 9 = .ok (.iconst 0, 1) := by decide +kernel
theorem dX9_settle_10 : decode cX9_settle 10 = .ok (.sipush 727, 3) := by decide +kernel
theorem dX9_settle_13 : decode cX9_settle 13 = .ok (.invokestatic 333, 3) := by decide +kernel
theorem dX9_settle_16 : decode cX9_settle 16 = .ok (.ifCond .eq 26, 3) := by decide +kernel
theorem dX9_settle_19 : decode cX9_settle 19 = .ok (.iload_n 3, 1) := by decide +kernel
theorem dX9_settle_20 : decode cX9_settle 20 = .ok (.iload_n 2, 1) := by decide +kernel
theorem dX9_settle_21 : decode cX9_settle 21 = .ok (.sipush 727, 3) := by decide +kernel
theorem dX9_settle_24 : decode cX9_settle 24 = .ok (.invokestatic 333, 3) := by decide +kernel
theorem dX9_settle_27 : decode cX9_settle 27 = .ok (.ifCond .eq 15, 3) := by decide +kernel
theorem dX9_settle_30 : decode cX9_settle 30 = .ok (.aload_n 0, 1) := by decide +kernel
theorem dX9_settle_31 : decode cX9_settle 31 = .ok (.iconst 4, 1) := by decide +kernel
theorem dX9_settle_32 : decode cX9_settle 32 = .ok (.iload_n 1, 1) := by decide +kernel
theorem dX9_settle_33 : decode cX9_settle 33 = .ok (.iload_n 2, 1) := by decide +kernel
theorem dX9_settle_34 : decode cX9_settle 34 = .ok (.iload_n 3, 1) := by decide +kernel
theorem dX9_settle_35 : decode cX9_settle 35 = .ok (.iconst 0, 1) := by decide +kernel
theorem dX9_settle_36 : decode cX9_settle 36 = .ok (.invokevirtual 352, 3) := by decide +kernel
theorem dX9_settle_39 : decode cX9_settle 39 = .ok (.goto 4, 3) := by decide +kernel
theorem dX9_settle_42 : decode cX9_settle 42 = .ok (.iconst (-1), 1) := by decide +kernel
theorem dX9_settle_43 : decode cX9_settle 43 = .ok (.ireturn, 1) := by decide +kernel
theorem dX9_settles_0 : decode cX9_settles 0 = .ok (.aload_n 0, 1) := by decide +kernel
theorem dX9_settles_1 : decode cX9_settles 1 = .ok (.iload_n 1, 1) := by decide +kernel
theorem dX9_settles_2 : decode cX9_settles 2 = .ok (.iload_n 2, 1) := by decide +kernel
theorem dX9_settles_3 : decode cX9_settles 3 = .ok (.iload_n 3, 1) := by decide +kernel
theorem dX9_settles_4 : decode cX9_settles 4 = .ok (.iload 4, 2) := by decide +kernel
theorem dX9_settles_6 : decode cX9_settles 6 = .ok (.invokevirtual 503, 3) := by decide +kernel
theorem dX9_settles_9 : decode cX9_settles 9 = .ok (.ifCond .eq 10, 3) := by decide +kernel
theorem dX9_settles_12 : decode cX9_settles 12 = .ok (.aload_n 0, 1) := by decide +kernel
theorem dX9_settles_13 : decode cX9_settles 13 = .ok (.getfield 497, 3) := by decide +kernel
theorem dX9_settles_16 : decode cX9_settles 16 = .ok (.goto 6, 3) := by decide +kernel
theorem dX9_settles_19 : decode cX9_settles 19 = .ok (.ldc2_w 472, 3) := by decide +kernel
theorem dX9_settles_22 : decode cX9_settles 22 = .ok (.lreturn, 1) := by decide +kernel
theorem dX9_span_0 : decode cX9_span 0 = .ok (.aload_n 0, 1) := by decide +kernel
theorem dX9_span_1 : decode cX9_span 1 = .ok (.iload_n 1, 1) := by decide +kernel
theorem dX9_span_2 : decode cX9_span 2 = .ok (.invokevirtual 346, 3) := by decide +kernel
theorem dX9_span_5 : decode cX9_span 5 = .ok (.ifCond .eq 10, 3) := by decide +kernel
theorem dX9_span_8 : decode cX9_span 8 = .ok (.iload_n 2, 1) := by decide +kernel
theorem dX9_span_9 : decode cX9_span 9 = .ok (.invokestatic 349, 3) := by decide +kernel
theorem dX9_span_12 : decode cX9_span 12 = .ok (.ifCond .ne 5, 3) := by decide +kernel
theorem dX9_span_15 : decode cX9_span 15 = .ok (.iconst (-1), 1) := by decide +kernel
theorem dX9_span_16 : decode cX9_span 16 = .ok (.ireturn, 1) := by decide +kernel
theorem dX9_span_17 : decode cX9_span 17 = .ok (.aload_n 0, 1) := by decide +kernel
theorem dX9_span_18 : decode cX9_span 18 = .ok (.iload_n 1, 1) := by decide +kernel
theorem dX9_span_19 : decode cX9_span 19 = .ok (.iload 4, 2) := by decide +kernel
theorem dX9_span_21 : decode cX9_span 21 = .ok (.invokevirtual 403, 3) := by decide +kernel
theorem dX9_span_24 : decode cX9_span 24 = .ok (.iload_n 3, 1) := by decide +kernel
theorem dX9_span_25 : decode cX9_span 25 = .ok (.ifCond .eq 12, 3) := by decide +kernel
theorem dX9_span_28 : decode cX9_span 28 = .ok (.aload_n 0, 1) := by decide +kernel
theorem dX9_span_29 : decode cX9_span 29 = .ok (.getfield 153, 3) := by decide +kernel
theorem dX9_span_32 : decode cX9_span 32 = .ok (.iload_n 2, 1) := by decide +kernel
theorem dX9_span_33 : decode cX9_span 33 = .ok (.iaload, 1) := by decide +kernel
theorem dX9_span_34 : decode cX9_span 34 = .ok (.goto 9, 3) := by decide +kernel
theorem dX9_span_37 : decode cX9_span 37 = .ok (.aload_n 0, 1) := by decide +kernel
theorem dX9_span_38 : decode cX9_span 38 = .ok (.getfield 150, 3) := by decide +kernel
theorem dX9_span_41 : decode cX9_span 41 = .ok (.iload_n 2, 1) := by decide +kernel
theorem dX9_span_42 : decode cX9_span 42 = .ok (.iaload, 1) := by decide +kernel
theorem dX9_span_43 : decode cX9_span 43 = .ok (.ireturn, 1) := by decide +kernel
theorem dX9_tests_0 : decode cX9_tests 0 = .ok (.aload_n 0, 1) := by decide +kernel
theorem dX9_tests_1 : decode cX9_tests 1 = .ok (.iload_n 1, 1) := by decide +kernel
theorem dX9_tests_2 : decode cX9_tests 2 = .ok (.iload_n 2, 1) := by decide +kernel
theorem dX9_tests_3 : decode cX9_tests 3 = .ok (.iload_n 3, 1) := by decide +kernel
theorem dX9_tests_4 : decode cX9_tests 4 = .ok (.iload 4, 2) := by decide +kernel
theorem dX9_tests_6 : decode cX9_tests 6 = .ok (.invokevirtual 503, 3) := by decide +kernel
theorem dX9_tests_9 : decode cX9_tests 9 = .ok (.ifCond .eq 10, 3) := by decide +kernel
theorem dX9_tests_12 : decode cX9_tests 12 = .ok (.aload_n 0, 1) := by decide +kernel
theorem dX9_tests_13 : decode cX9_tests 13 = .ok (.getfield 490, 3) := by decide +kernel
theorem dX9_tests_16 : decode cX9_tests 16 = .ok (.goto 4, 3) := by decide +kernel
theorem dX9_tests_19 : decode cX9_tests 19 = .ok (.iconst (-1), 1) := by decide +kernel
theorem dX9_tests_20 : decode cX9_tests 20 = .ok (.ireturn, 1) := by decide +kernel
theorem dX9_untell_0 : decode cX9_untell 0 = .ok (.iload_n 1, 1) := by decide +kernel
theorem dX9_untell_1 : decode cX9_untell 1 = .ok (.ifCond .lt 20, 3) := by decide +kernel
theorem dX9_untell_4 : decode cX9_untell 4 = .ok (.iload_n 1, 1) := by decide +kernel
theorem dX9_untell_5 : decode cX9_untell 5 = .ok (.aload_n 0, 1) := by decide +kernel
theorem dX9_untell_6 : decode cX9_untell 6 = .ok (.getfield 340, 3) := by decide +kernel
theorem dX9_untell_9 : decode cX9_untell 9 = .ok (.if_icmp .ge 12, 3) := by decide +kernel
theorem dX9_untell_12 : decode cX9_untell 12 = .ok (.aload_n 0, 1) := by decide +kernel
theorem dX9_untell_13 : decode cX9_untell 13 = .ok (.getfield 141, 3) := by decide +kernel
theorem dX9_untell_16 : decode cX9_untell 16 = .ok (.iload_n 1, 1) := by decide +kernel
theorem dX9_untell_17 : decode cX9_untell 17 = .ok (.iaload, 1) := by decide +kernel
theorem dX9_untell_18 : decode cX9_untell 18 = .ok (.ifCond .lt 5, 3) := by decide +kernel
theorem dX9_untell_21 : decode cX9_untell 21 = .ok (.iconst 0, 1) := by decide +kernel
theorem dX9_untell_22 : decode cX9_untell 22 = .ok (.ireturn, 1) := by decide +kernel
theorem dX9_untell_23 : decode cX9_untell 23 = .ok (.aload_n 0, 1) := by decide +kernel
theorem dX9_untell_24 : decode cX9_untell 24 = .ok (.getfield 141, 3) := by decide +kernel
theorem dX9_untell_27 : decode cX9_untell 27 = .ok (.iload_n 1, 1) := by decide +kernel
theorem dX9_untell_28 : decode cX9_untell 28 = .ok (.aload_n 0, 1) := by decide +kernel
theorem dX9_untell_29 : decode cX9_untell 29 = .ok (.getfield 343, 3) := by decide +kernel
theorem dX9_untell_32 : decode cX9_untell 32 = .ok (.iastore, 1) := by decide +kernel
theorem dX9_untell_33 : decode cX9_untell 33 = .ok (.iconst 1, 1) := by decide +kernel
theorem dX9_untell_34 : decode cX9_untell 34 = .ok (.ireturn, 1) := by decide +kernel
theorem dX9_weeks_0 : decode cX9_weeks 0 = .ok (.aload_n 0, 1) := by decide +kernel
theorem dX9_weeks_1 : decode cX9_weeks 1 = .ok (.iload_n 1, 1) := by decide +kernel
theorem dX9_weeks_2 : decode cX9_weeks 2 = .ok (.iload_n 2, 1) := by decide +kernel
theorem dX9_weeks_3 : decode cX9_weeks 3 = .ok (.iload_n 3, 1) := by decide +kernel
theorem dX9_weeks_4 : decode cX9_weeks 4 = .ok (.iload 4, 2) := by decide +kernel
theorem dX9_weeks_6 : decode cX9_weeks 6 = .ok (.invokevirtual 448, 3) := by decide +kernel
theorem dX9_weeks_9 : decode cX9_weeks 9 = .ok (.iconst (-1), 1) := by decide +kernel
theorem dX9_weeks_10 : decode cX9_weeks 10 = .ok (.if_icmp .ne 7, 3) := by decide +kernel
theorem dX9_weeks_13 : decode cX9_weeks 13 = .ok (.iconst (-1), 1) := by decide +kernel
theorem dX9_weeks_14 : decode cX9_weeks 14 = .ok (.goto 7, 3) := by decide +kernel
theorem dX9_weeks_17 : decode cX9_weeks 17 = .ok (.aload_n 0, 1) := by decide +kernel
theorem dX9_weeks_18 : decode cX9_weeks 18 = .ok (.getfield 429, 3) := by decide +kernel
theorem dX9_weeks_21 : decode cX9_weeks 21 = .ok (.ireturn, 1) := by decide +kernel
theorem dX9_worker_0 : decode cX9_worker 0 = .ok (.iload_n 1, 1) := by decide +kernel
theorem dX9_worker_1 : decode cX9_worker 1 = .ok (.iconst 0, 1) := by decide +kernel
theorem dX9_worker_2 : decode cX9_worker 2 = .ok (.bipush 9, 2) := by decide +kernel
theorem dX9_worker_4 : decode cX9_worker 4 = .ok (.invokestatic 333, 3) := by decide +kernel
theorem dX9_worker_7 : decode cX9_worker 7 = .ok (.ifCond .eq 12, 3) := by decide +kernel
theorem dX9_worker_10 : decode cX9_worker 10 = .ok (.aload_n 0, 1) := by decide +kernel
theorem dX9_worker_11 : decode cX9_worker 11 = .ok (.getfield 337, 3) := by decide +kernel
theorem dX9_worker_14 : decode cX9_worker 14 = .ok (.bipush 10, 2) := by decide +kernel
theorem dX9_worker_16 : decode cX9_worker 16 = .ok (.if_icmp .ne 5, 3) := by decide +kernel
theorem dX9_worker_19 : decode cX9_worker 19 = .ok (.iconst (-1), 1) := by decide +kernel
theorem dX9_worker_20 : decode cX9_worker 20 = .ok (.ireturn, 1) := by decide +kernel
theorem dX9_worker_21 : decode cX9_worker 21 = .ok (.aload_n 0, 1) := by decide +kernel
theorem dX9_worker_22 : decode cX9_worker 22 = .ok (.getfield 117, 3) := by decide +kernel
theorem dX9_worker_25 : decode cX9_worker 25 = .ok (.aload_n 0, 1) := by decide +kernel
theorem dX9_worker_26 : decode cX9_worker 26 = .ok (.getfield 337, 3) := by decide +kernel
theorem dX9_worker_29 : decode cX9_worker 29 = .ok (.iload_n 1, 1) := by decide +kernel
theorem dX9_worker_30 : decode cX9_worker 30 = .ok (.iastore, 1) := by decide +kernel
theorem dX9_worker_31 : decode cX9_worker 31 = .ok (.aload_n 0, 1) := by decide +kernel
theorem dX9_worker_32 : decode cX9_worker 32 = .ok (.getfield 144, 3) := by decide +kernel
theorem dX9_worker_35 : decode cX9_worker 35 = .ok (.aload_n 0, 1) := by decide +kernel
theorem dX9_worker_36 : decode cX9_worker 36 = .ok (.getfield 337, 3) := by decide +kernel
theorem dX9_worker_39 : decode cX9_worker 39 = .ok (.iload_n 2, 1) := by decide +kernel
theorem dX9_worker_40 : decode cX9_worker 40 = .ok (.bastore, 1) := by decide +kernel
theorem dX9_worker_41 : decode cX9_worker 41 = .ok (.aload_n 0, 1) := by decide +kernel
theorem dX9_worker_42 : decode cX9_worker 42 = .ok (.dup, 1) := by decide +kernel
theorem dX9_worker_43 : decode cX9_worker 43 = .ok (.getfield 337, 3) := by decide +kernel
theorem dX9_worker_46 : decode cX9_worker 46 = .ok (.iconst 1, 1) := by decide +kernel
theorem dX9_worker_47 : decode cX9_worker 47 = .ok (.iadd, 1) := by decide +kernel
theorem dX9_worker_48 : decode cX9_worker 48 = .ok (.putfield 337, 3) := by decide +kernel
theorem dX9_worker_51 : decode cX9_worker 51 = .ok (.aload_n 0, 1) := by decide +kernel
theorem dX9_worker_52 : decode cX9_worker 52 = .ok (.getfield 337, 3) := by decide +kernel
theorem dX9_worker_55 : decode cX9_worker 55 = .ok (.iconst 1, 1) := by decide +kernel
theorem dX9_worker_56 : decode cX9_worker 56 = .ok (.isub, 1) := by decide +kernel
theorem dX9_worker_57 : decode cX9_worker 57 = .ok (.ireturn, 1) := by decide +kernel
def f_X9_marks (a0 : Nat) (v1 : Int32) (v2 : Int32) (v3 : Int32) (v4 : Int32) (h : Hp) : Option (Int32 × Hp) :=
  b1 (f_X9_isShelf v1 h) fun x3 h1 =>
  if x3 = (0 : Int32) then
    some ((-1), h1)
  else
    (rc h1 (some a0) 8).bind fun g7 =>
    b1 (f_X9_isWorker g7 v2 h1) fun x9 h5 =>
    if x9 = (0 : Int32) then
      some ((-1), h5)
    else
      (rc h5 (some a0) 8).bind fun g13 =>
      b1 (f_X9_payoutOf g13 v1 v2 v3 v4 h5) fun x15 h11 =>
      (getI h11 (some a0) 8 66).bind fun x16 =>
      some (x16, h11)
set_option maxHeartbeats 4000000 in
theorem t_X9_marks (E : En) (d : Nat) {mc ms : Nat} {a0 : Nat} {v1 : Int32} {v2 : Int32} {v3 : Int32} {v4 : Int32} {h h' : Hp} {r : Int32} {K : Option Vv → Hp → Prop} (hf : f_X9_marks a0 v1 v2 v3 v4 h = some (r, h')) (hk : K (some (vi r)) h') : MC E m_X9_marks (d + 8) mc ms [vq (some a0), vi v1, vi v2, vi v3, vi v4] h K := by
  unfold f_X9_marks at hf
  show MW E m_X9_marks (d + 8) mc ms 0 [some (vq (some a0)), some (vi v1), some (vi v2), some (vi v3), some (vi v4)] [] h K
  refine mw_iload_n (x := v1) dX9_marks_0 rfl ?_
  obtain ⟨x3, h1, e2, hf⟩ := ob1 hf
  refine ml_callS (mc' := 0) (ms' := 0) [vi v1] dX9_marks_1 mk_X9_isShelf lk_RX9_200 st_X9_isShelf rfl (Nat.le_of_ble_eq_true rfl) (Nat.le_of_ble_eq_true rfl) (t_X9_isShelf E _ e2 isR_rfl) ?_
  refine mw_if_eq (tgt := 15) dX9_marks_4 rfl (fun c4 => ?_) (fun c4 => ?_)
  · rw [if_pos c4] at hf
    refine mw_iconst (v := (-1)) dX9_marks_15 (by decide) ?_
    obtain ⟨rfl, rfl⟩ := y1 hf
    exact mw_ireturn dX9_marks_16 rfl rfl hk
  · rw [if_neg c4] at hf
    refine mw_aload_n (x := (some a0)) dX9_marks_7 rfl ?_
    refine mw_iload_n (x := v2) dX9_marks_8 rfl ?_
    obtain ⟨g7, e8, hf⟩ := ob hf
    obtain ⟨x9, h5, e6, hf⟩ := ob1 hf
    refine ml_callV (ci := 8) (mc' := 0) (ms' := 0) [vi v2] dX9_marks_9 mk_X9_isWorker lk_RX9_346 im_X9_isWorker se_X9_isWorker (by decide) e8 rfl (Nat.le_of_ble_eq_true rfl) (Nat.le_of_ble_eq_true rfl) (t_X9_isWorker E _ e6 isR_rfl) ?_
    refine mw_if_ne (tgt := 17) dX9_marks_12 rfl (fun c10 => ?_) (fun c10 => ?_)
    · rw [if_neg c10] at hf
      refine mw_aload_n (x := (some a0)) dX9_marks_17 rfl ?_
      refine mw_iload_n (x := v1) dX9_marks_18 rfl ?_
      refine mw_iload_n (x := v2) dX9_marks_19 rfl ?_
      refine mw_iload_n (x := v3) dX9_marks_20 rfl ?_
      refine mw_iload (x := v4) dX9_marks_21 rfl ?_
      obtain ⟨g13, e14, hf⟩ := ob hf
      obtain ⟨x15, h11, e12, hf⟩ := ob1 hf
      refine ml_callV (ci := 8) (mc' := 0) (ms' := 0) [vi v1, vi v2, vi v3, vi v4] dX9_marks_23 mk_X9_payoutOf lk_RX9_480 im_X9_payoutOf se_X9_payoutOf (by decide) e14 rfl (Nat.le_of_ble_eq_true rfl) (Nat.le_of_ble_eq_true rfl) (t_X9_payoutOf E _ e12 isR_rfl) ?_
      refine mw_pop2l dX9_marks_26 ?_
      refine mw_aload_n (x := (some a0)) dX9_marks_27 rfl ?_
      obtain ⟨x16, e17, hf⟩ := ob hf
      refine ml_getI dX9_marks_28 fl_RX9_477 rfl e17 ?_
      obtain ⟨rfl, rfl⟩ := y1 hf
      exact mw_ireturn dX9_marks_31 rfl rfl hk
    · rw [if_pos c10] at hf
      refine mw_iconst (v := (-1)) dX9_marks_15 (by decide) ?_
      obtain ⟨rfl, rfl⟩ := y1 hf
      exact mw_ireturn dX9_marks_16 rfl rfl hk
def f_X9_owed (a0 : Nat) (v1 : Int32) (v2 : Int32) (v3 : Int32) (v4 : Int32) (h : Hp) : Option (Int32 × Hp) :=
  b1 (f_X9_isShelf v1 h) fun x3 h1 =>
  if x3 = (0 : Int32) then
    some ((-1), h1)
  else
    (rc h1 (some a0) 8).bind fun g7 =>
    b1 (f_X9_isOf g7 v2 (3 : Int32) h1) fun x9 h5 =>
    if x9 = (0 : Int32) then
      some ((-1), h5)
    else
      (getQ h5 (some a0) 8 33).bind fun x11 =>
      (rdI h5 x11 10 v2).bind fun x13 =>
      (rc h5 (some a0) 8).bind fun g17 =>
      (f_X9_reckon g17 v1 x13 v3 v4 h5).bind fun h15 =>
      (rc h15 (some a0) 8).bind fun g21 =>
      b1 (f_X9_owedOf g21 v1 v2 v4 h15) fun x23 h19 =>
      some (x23, h19)
set_option maxHeartbeats 4000000 in
theorem t_X9_owed (E : En) (d : Nat) {mc ms : Nat} {a0 : Nat} {v1 : Int32} {v2 : Int32} {v3 : Int32} {v4 : Int32} {h h' : Hp} {r : Int32} {K : Option Vv → Hp → Prop} (hf : f_X9_owed a0 v1 v2 v3 v4 h = some (r, h')) (hk : K (some (vi r)) h') : MC E m_X9_owed (d + 6) mc ms [vq (some a0), vi v1, vi v2, vi v3, vi v4] h K := by
  unfold f_X9_owed at hf
  show MW E m_X9_owed (d + 6) mc ms 0 [some (vq (some a0)), some (vi v1), some (vi v2), some (vi v3), some (vi v4)] [] h K
  refine mw_iload_n (x := v1) dX9_owed_0 rfl ?_
  obtain ⟨x3, h1, e2, hf⟩ := ob1 hf
  refine ml_callS (mc' := 0) (ms' := 0) [vi v1] dX9_owed_1 mk_X9_isShelf lk_RX9_200 st_X9_isShelf rfl (Nat.le_of_ble_eq_true rfl) (Nat.le_of_ble_eq_true rfl) (t_X9_isShelf E _ e2 isR_rfl) ?_
  refine mw_if_eq (tgt := 16) dX9_owed_4 rfl (fun c4 => ?_) (fun c4 => ?_)
  · rw [if_pos c4] at hf
    refine mw_iconst (v := (-1)) dX9_owed_16 (by decide) ?_
    obtain ⟨rfl, rfl⟩ := y1 hf
    exact mw_ireturn dX9_owed_17 rfl rfl hk
  · rw [if_neg c4] at hf
    refine mw_aload_n (x := (some a0)) dX9_owed_7 rfl ?_
    refine mw_iload_n (x := v2) dX9_owed_8 rfl ?_
    refine mw_iconst (v := 3) dX9_owed_9 (by decide) ?_
    obtain ⟨g7, e8, hf⟩ := ob hf
    obtain ⟨x9, h5, e6, hf⟩ := ob1 hf
    refine ml_callV (ci := 8) (mc' := 0) (ms' := 0) [vi v2, vi (3 : Int32)] dX9_owed_10 mk_X9_isOf lk_RX9_445 im_X9_isOf se_X9_isOf (by decide) e8 rfl (Nat.le_of_ble_eq_true rfl) (Nat.le_of_ble_eq_true rfl) (t_X9_isOf E _ e6 isR_rfl) ?_
    refine mw_if_ne (tgt := 18) dX9_owed_13 rfl (fun c10 => ?_) (fun c10 => ?_)
    · rw [if_neg c10] at hf
      refine mw_aload_n (x := (some a0)) dX9_owed_18 rfl ?_
      refine mw_iload_n (x := v1) dX9_owed_19 rfl ?_
      refine mw_aload_n (x := (some a0)) dX9_owed_20 rfl ?_
      obtain ⟨x11, e12, hf⟩ := ob hf
      refine ml_getQ dX9_owed_21 fl_RX9_126 rfl e12 ?_
      refine mw_iload_n (x := v2) dX9_owed_24 rfl ?_
      obtain ⟨x13, e14, hf⟩ := ob hf
      refine ml_iald dX9_owed_25 e14 ?_
      refine mw_iload_n (x := v3) dX9_owed_26 rfl ?_
      refine mw_iload (x := v4) dX9_owed_27 rfl ?_
      obtain ⟨g17, e18, hf⟩ := ob hf
      obtain ⟨h15, e16, hf⟩ := ob hf
      refine ml_callV (ci := 8) (mc' := 0) (ms' := 0) [vi v1, vi x13, vi v3, vi v4] dX9_owed_29 mk_X9_reckon lk_RX9_425 im_X9_reckon se_X9_reckon (by decide) e18 rfl (Nat.le_of_ble_eq_true rfl) (Nat.le_of_ble_eq_true rfl) (t_X9_reckon E _ e16 isR_rfl) ?_
      refine mw_aload_n (x := (some a0)) dX9_owed_32 rfl ?_
      refine mw_iload_n (x := v1) dX9_owed_33 rfl ?_
      refine mw_iload_n (x := v2) dX9_owed_34 rfl ?_
      refine mw_iload (x := v4) dX9_owed_35 rfl ?_
      obtain ⟨g21, e22, hf⟩ := ob hf
      obtain ⟨x23, h19, e20, hf⟩ := ob1 hf
      refine ml_callV (ci := 8) (mc' := 0) (ms' := 0) [vi v1, vi v2, vi v4] dX9_owed_37 mk_X9_owedOf lk_RX9_451 im_X9_owedOf se_X9_owedOf (by decide) e22 rfl (Nat.le_of_ble_eq_true rfl) (Nat.le_of_ble_eq_true rfl) (t_X9_owedOf E _ e20 isR_rfl) ?_
      obtain ⟨rfl, rfl⟩ := y1 hf
      exact mw_ireturn dX9_owed_40 rfl rfl hk
    · rw [if_pos c10] at hf
      refine mw_iconst (v := (-1)) dX9_owed_16 (by decide) ?_
      obtain ⟨rfl, rfl⟩ := y1 hf
      exact mw_ireturn dX9_owed_17 rfl rfl hk
def f_X9_pay (a0 : Nat) (v1 : Int32) (v2 : Int32) (v3 : Int32) (v4 : Int32) (h : Hp) : Option (Int32 × Hp) :=
  (rc h (some a0) 8).bind fun g3 =>
  b1 (f_X9_isWorker g3 v1 h) fun x5 h1 =>
  b1 ((if x5 = (0 : Int32) then
      some ((-1), h1)
    else
      b1 (f_X9_isWeek v2 h1) fun x30 h28 =>
      if x30 = (0 : Int32) then
        some ((-1), h28)
      else
        b1 (f_X9_isIn v3 (0 : Int32) (5 : Int32) h28) fun x34 h32 =>
        if x34 = (0 : Int32) then
          some ((-1), h32)
        else
          b1 ((if v3 = (5 : Int32) then
              some (99, h32)
            else
              some (9999, h32) : Option (Int32 × Hp))) fun w37 h38 =>
          b1 (f_X9_isIn v4 (0 : Int32) w37 h38) fun x42 h40 =>
          if x42 = (0 : Int32) then
            some ((-1), h40)
          else
            (rc h40 (some a0) 8).bind fun g46 =>
            b1 (f_X9_fact g46 (0 : Int32) v1 v2 v3 v4 h40) fun x48 h44 =>
            some (x48, h44) : Option (Int32 × Hp))) fun w49 h50 =>
  some (w49, h50)
set_option maxHeartbeats 4000000 in
theorem t_X9_pay (E : En) (d : Nat) {mc ms : Nat} {a0 : Nat} {v1 : Int32} {v2 : Int32} {v3 : Int32} {v4 : Int32} {h h' : Hp} {r : Int32} {K : Option Vv → Hp → Prop} (hf : f_X9_pay a0 v1 v2 v3 v4 h = some (r, h')) (hk : K (some (vi r)) h') : MC E m_X9_pay (d + 2) mc ms [vq (some a0), vi v1, vi v2, vi v3, vi v4] h K := by
  unfold f_X9_pay at hf
  show MW E m_X9_pay (d + 2) mc ms 0 [some (vq (some a0)), some (vi v1), some (vi v2), some (vi v3), some (vi v4)] [] h K
  refine mw_aload_n (x := (some a0)) dX9_pay_0 rfl ?_
  refine mw_iload_n (x := v1) dX9_pay_1 rfl ?_
  obtain ⟨g3, e4, hf⟩ := ob hf
  obtain ⟨x5, h1, e2, hf⟩ := ob1 hf
  refine ml_callV (ci := 8) (mc' := 0) (ms' := 0) [vi v1] dX9_pay_2 mk_X9_isWorker lk_RX9_346 im_X9_isWorker se_X9_isWorker (by decide) e4 rfl (Nat.le_of_ble_eq_true rfl) (Nat.le_of_ble_eq_true rfl) (t_X9_isWorker E _ e2 isR_rfl) ?_
  obtain ⟨w49, h50, r51, hf⟩ := ob1 hf
  have J52 : MW E m_X9_pay (d + 2) mc ms 60 [none, none, none, none, none] [vi w49] h50 K := by
    obtain ⟨rfl, rfl⟩ := y1 hf
    exact mw_ireturn dX9_pay_60 rfl rfl hk
  refine mw_if_eq (tgt := 59) dX9_pay_5 rfl (fun c6 => ?_) (fun c6 => ?_)
  · rw [if_pos c6] at r51
    refine mw_iconst (v := (-1)) dX9_pay_59 (by decide) ?_
    obtain ⟨rfl, rfl⟩ := y1 r51
    exact MW.sub (subL_n (subL_n (subL_n (subL_n (subL_n subL_nil))))) J52
  · rw [if_neg c6] at r51
    refine mw_iload_n (x := v2) dX9_pay_8 rfl ?_
    obtain ⟨x30, h28, e29, r51⟩ := ob1 r51
    refine ml_callS (mc' := 0) (ms' := 0) [vi v2] dX9_pay_9 mk_X9_isWeek lk_RX9_349 st_X9_isWeek rfl (Nat.le_of_ble_eq_true rfl) (Nat.le_of_ble_eq_true rfl) (t_X9_isWeek E _ e29 isR_rfl) ?_
    refine mw_if_eq (tgt := 59) dX9_pay_12 rfl (fun c31 => ?_) (fun c31 => ?_)
    · rw [if_pos c31] at r51
      refine mw_iconst (v := (-1)) dX9_pay_59 (by decide) ?_
      obtain ⟨rfl, rfl⟩ := y1 r51
      exact MW.sub (subL_n (subL_n (subL_n (subL_n (subL_n subL_nil))))) J52
    · rw [if_neg c31] at r51
      refine mw_iload_n (x := v3) dX9_pay_15 rfl ?_
      refine mw_iconst (v := 0) dX9_pay_16 (by decide) ?_
      refine mw_iconst (v := 5) dX9_pay_17 (by decide) ?_
      obtain ⟨x34, h32, e33, r51⟩ := ob1 r51
      refine ml_callS (mc' := 0) (ms' := 0) [vi v3, vi (0 : Int32), vi (5 : Int32)] dX9_pay_18 mk_X9_isIn lk_RX9_333 st_X9_isIn rfl (Nat.le_of_ble_eq_true rfl) (Nat.le_of_ble_eq_true rfl) (t_X9_isIn E _ e33 isR_rfl) ?_
      refine mw_if_eq (tgt := 59) dX9_pay_21 rfl (fun c35 => ?_) (fun c35 => ?_)
      · rw [if_pos c35] at r51
        refine mw_iconst (v := (-1)) dX9_pay_59 (by decide) ?_
        obtain ⟨rfl, rfl⟩ := y1 r51
        exact MW.sub (subL_n (subL_n (subL_n (subL_n (subL_n subL_nil))))) J52
      · rw [if_neg c35] at r51
        refine mw_iload (x := v4) dX9_pay_24 rfl ?_
        refine mw_iconst (v := 0) dX9_pay_26 (by decide) ?_
        refine mw_iload_n (x := v3) dX9_pay_27 rfl ?_
        refine mw_iconst (v := 5) dX9_pay_28 (by decide) ?_
        obtain ⟨w37, h38, r39, r51⟩ := ob1 r51
        have J53 : MW E m_X9_pay (d + 2) mc ms 40 [some (vq (some a0)), some (vi v1), some (vi v2), some (vi v3), some (vi v4)] [vi w37, vi 0, vi v4] h38 K := by
          obtain ⟨x42, h40, e41, r51⟩ := ob1 r51
          refine ml_callS (mc' := 0) (ms' := 0) [vi v4, vi (0 : Int32), vi w37] dX9_pay_40 mk_X9_isIn lk_RX9_333 st_X9_isIn rfl (Nat.le_of_ble_eq_true rfl) (Nat.le_of_ble_eq_true rfl) (t_X9_isIn E _ e41 isR_rfl) ?_
          refine mw_if_eq (tgt := 59) dX9_pay_43 rfl (fun c43 => ?_) (fun c43 => ?_)
          · rw [if_pos c43] at r51
            refine mw_iconst (v := (-1)) dX9_pay_59 (by decide) ?_
            obtain ⟨rfl, rfl⟩ := y1 r51
            exact MW.sub (subL_n (subL_n (subL_n (subL_n (subL_n subL_nil))))) J52
          · rw [if_neg c43] at r51
            refine mw_aload_n (x := (some a0)) dX9_pay_46 rfl ?_
            refine mw_iconst (v := 0) dX9_pay_47 (by decide) ?_
            refine mw_iload_n (x := v1) dX9_pay_48 rfl ?_
            refine mw_iload_n (x := v2) dX9_pay_49 rfl ?_
            refine mw_iload_n (x := v3) dX9_pay_50 rfl ?_
            refine mw_iload (x := v4) dX9_pay_51 rfl ?_
            obtain ⟨g46, e47, r51⟩ := ob r51
            obtain ⟨x48, h44, e45, r51⟩ := ob1 r51
            refine ml_callV (ci := 8) (mc' := 0) (ms' := 0) [vi (0 : Int32), vi v1, vi v2, vi v3, vi v4] dX9_pay_53 mk_X9_fact lk_RX9_352 im_X9_fact se_X9_fact (by decide) e47 rfl (Nat.le_of_ble_eq_true rfl) (Nat.le_of_ble_eq_true rfl) (t_X9_fact E _ e45 isR_rfl) ?_
            refine mw_goto (tgt := 60) dX9_pay_56 rfl ?_
            obtain ⟨rfl, rfl⟩ := y1 r51
            exact MW.sub (subL_n (subL_n (subL_n (subL_n (subL_n subL_nil))))) J52
        refine mw_icmp_ne (tgt := 37) dX9_pay_29 rfl (fun c36 => ?_) (fun c36 => ?_)
        · rw [if_neg c36] at r39
          refine mw_sipush (v := 9999) dX9_pay_37 (by decide) ?_
          obtain ⟨rfl, rfl⟩ := y1 r39
          exact MW.sub (subL_s (subL_s (subL_s (subL_s (subL_s subL_nil))))) J53
        · rw [if_pos c36] at r39
          refine mw_bipush (v := 99) dX9_pay_32 (by decide) ?_
          refine mw_goto (tgt := 40) dX9_pay_34 rfl ?_
          obtain ⟨rfl, rfl⟩ := y1 r39
          exact MW.sub (subL_s (subL_s (subL_s (subL_s (subL_s subL_nil))))) J53
def f_X9_payout (a0 : Nat) (v1 : Int32) (v2 : Int32) (v3 : Int32) (v4 : Int32) (h : Hp) : Option (Int64 × Hp) :=
  b1 (f_X9_isShelf v1 h) fun x3 h1 =>
  b1 ((if x3 = (0 : Int32) then
      some ((-1), h1)
    else
      (rc h1 (some a0) 8).bind fun g18 =>
      b1 (f_X9_isWorker g18 v2 h1) fun x20 h16 =>
      if x20 = (0 : Int32) then
        some ((-1), h16)
      else
        (rc h16 (some a0) 8).bind fun g24 =>
        b1 (f_X9_payoutOf g24 v1 v2 v3 v4 h16) fun x26 h22 =>
        some (x26, h22) : Option (Int64 × Hp))) fun w27 h28 =>
  some (w27, h28)
set_option maxHeartbeats 4000000 in
theorem t_X9_payout (E : En) (d : Nat) {mc ms : Nat} {a0 : Nat} {v1 : Int32} {v2 : Int32} {v3 : Int32} {v4 : Int32} {h h' : Hp} {r : Int64} {K : Option Vv → Hp → Prop} (hf : f_X9_payout a0 v1 v2 v3 v4 h = some (r, h')) (hk : K (some (vl r)) h') : MC E m_X9_payout (d + 8) mc ms [vq (some a0), vi v1, vi v2, vi v3, vi v4] h K := by
  unfold f_X9_payout at hf
  show MW E m_X9_payout (d + 8) mc ms 0 [some (vq (some a0)), some (vi v1), some (vi v2), some (vi v3), some (vi v4)] [] h K
  refine mw_iload_n (x := v1) dX9_payout_0 rfl ?_
  obtain ⟨x3, h1, e2, hf⟩ := ob1 hf
  refine ml_callS (mc' := 0) (ms' := 0) [vi v1] dX9_payout_1 mk_X9_isShelf lk_RX9_200 st_X9_isShelf rfl (Nat.le_of_ble_eq_true rfl) (Nat.le_of_ble_eq_true rfl) (t_X9_isShelf E _ e2 isR_rfl) ?_
  obtain ⟨w27, h28, r29, hf⟩ := ob1 hf
  have J30 : MW E m_X9_payout (d + 8) mc ms 30 [none, none, none, none, none] [vl w27] h28 K := by
    obtain ⟨rfl, rfl⟩ := y1 hf
    exact mw_lreturn dX9_payout_30 rfl hk
  refine mw_if_eq (tgt := 27) dX9_payout_4 rfl (fun c4 => ?_) (fun c4 => ?_)
  · rw [if_pos c4] at r29
    refine mw_ldc2 dX9_payout_27 kc_RX9_472 ?_
    obtain ⟨rfl, rfl⟩ := y1 r29
    exact MW.sub (subL_n (subL_n (subL_n (subL_n (subL_n subL_nil))))) J30
  · rw [if_neg c4] at r29
    refine mw_aload_n (x := (some a0)) dX9_payout_7 rfl ?_
    refine mw_iload_n (x := v2) dX9_payout_8 rfl ?_
    obtain ⟨g18, e19, r29⟩ := ob r29
    obtain ⟨x20, h16, e17, r29⟩ := ob1 r29
    refine ml_callV (ci := 8) (mc' := 0) (ms' := 0) [vi v2] dX9_payout_9 mk_X9_isWorker lk_RX9_346 im_X9_isWorker se_X9_isWorker (by decide) e19 rfl (Nat.le_of_ble_eq_true rfl) (Nat.le_of_ble_eq_true rfl) (t_X9_isWorker E _ e17 isR_rfl) ?_
    refine mw_if_eq (tgt := 27) dX9_payout_12 rfl (fun c21 => ?_) (fun c21 => ?_)
    · rw [if_pos c21] at r29
      refine mw_ldc2 dX9_payout_27 kc_RX9_472 ?_
      obtain ⟨rfl, rfl⟩ := y1 r29
      exact MW.sub (subL_n (subL_n (subL_n (subL_n (subL_n subL_nil))))) J30
    · rw [if_neg c21] at r29
      refine mw_aload_n (x := (some a0)) dX9_payout_15 rfl ?_
      refine mw_iload_n (x := v1) dX9_payout_16 rfl ?_
      refine mw_iload_n (x := v2) dX9_payout_17 rfl ?_
      refine mw_iload_n (x := v3) dX9_payout_18 rfl ?_
      refine mw_iload (x := v4) dX9_payout_19 rfl ?_
      obtain ⟨g24, e25, r29⟩ := ob r29
      obtain ⟨x26, h22, e23, r29⟩ := ob1 r29
      refine ml_callV (ci := 8) (mc' := 0) (ms' := 0) [vi v1, vi v2, vi v3, vi v4] dX9_payout_21 mk_X9_payoutOf lk_RX9_480 im_X9_payoutOf se_X9_payoutOf (by decide) e25 rfl (Nat.le_of_ble_eq_true rfl) (Nat.le_of_ble_eq_true rfl) (t_X9_payoutOf E _ e23 isR_rfl) ?_
      refine mw_goto (tgt := 30) dX9_payout_24 rfl ?_
      obtain ⟨rfl, rfl⟩ := y1 r29
      exact MW.sub (subL_n (subL_n (subL_n (subL_n (subL_n subL_nil))))) J30
def f_X9_quarrel (a0 : Nat) (v1 : Int32) (v2 : Int32) (h : Hp) : Option (Int32 × Hp) :=
  (rc h (some a0) 8).bind fun g3 =>
  b1 (f_X9_isWorker g3 v1 h) fun x5 h1 =>
  if x5 = (0 : Int32) then
    some ((-2), h1)
  else
    (rc h1 (some a0) 8).bind fun g9 =>
    (f_X9_know g9 v1 v2 h1).bind fun h7 =>
    (getI h7 (some a0) 8 50).bind fun x11 =>
    some (x11, h7)
set_option maxHeartbeats 4000000 in
theorem t_X9_quarrel (E : En) (d : Nat) {mc ms : Nat} {a0 : Nat} {v1 : Int32} {v2 : Int32} {h h' : Hp} {r : Int32} {K : Option Vv → Hp → Prop} (hf : f_X9_quarrel a0 v1 v2 h = some (r, h')) (hk : K (some (vi r)) h') : MC E m_X9_quarrel (d + 5) mc ms [vq (some a0), vi v1, vi v2] h K := by
  unfold f_X9_quarrel at hf
  show MW E m_X9_quarrel (d + 5) mc ms 0 [some (vq (some a0)), some (vi v1), some (vi v2)] [] h K
  refine mw_aload_n (x := (some a0)) dX9_quarrel_0 rfl ?_
  refine mw_iload_n (x := v1) dX9_quarrel_1 rfl ?_
  obtain ⟨g3, e4, hf⟩ := ob hf
  obtain ⟨x5, h1, e2, hf⟩ := ob1 hf
  refine ml_callV (ci := 8) (mc' := 0) (ms' := 0) [vi v1] dX9_quarrel_2 mk_X9_isWorker lk_RX9_346 im_X9_isWorker se_X9_isWorker (by decide) e4 rfl (Nat.le_of_ble_eq_true rfl) (Nat.le_of_ble_eq_true rfl) (t_X9_isWorker E _ e2 isR_rfl) ?_
  refine mw_if_ne (tgt := 11) dX9_quarrel_5 rfl (fun c6 => ?_) (fun c6 => ?_)
  · rw [if_neg c6] at hf
    refine mw_aload_n (x := (some a0)) dX9_quarrel_11 rfl ?_
    refine mw_iload_n (x := v1) dX9_quarrel_12 rfl ?_
    refine mw_iload_n (x := v2) dX9_quarrel_13 rfl ?_
    obtain ⟨g9, e10, hf⟩ := ob hf
    obtain ⟨h7, e8, hf⟩ := ob hf
    refine ml_callV (ci := 8) (mc' := 0) (ms' := 0) [vi v1, vi v2] dX9_quarrel_14 mk_X9_know lk_RX9_403 im_X9_know se_X9_know (by decide) e10 rfl (Nat.le_of_ble_eq_true rfl) (Nat.le_of_ble_eq_true rfl) (t_X9_know E _ e8 isR_rfl) ?_
    refine mw_aload_n (x := (some a0)) dX9_quarrel_17 rfl ?_
    obtain ⟨x11, e12, hf⟩ := ob hf
    refine ml_getI dX9_quarrel_18 fl_RX9_369 rfl e12 ?_
    obtain ⟨rfl, rfl⟩ := y1 hf
    exact mw_ireturn dX9_quarrel_21 rfl rfl hk
  · rw [if_pos c6] at hf
    refine mw_bipush (v := (-2)) dX9_quarrel_8 (by decide) ?_
    obtain ⟨rfl, rfl⟩ := y1 hf
    exact mw_ireturn dX9_quarrel_10 rfl rfl hk
def f_X9_quarrels (a0 : Nat) (v1 : Int32) (v2 : Int32) (v3 : Int32) (v4 : Int32) (h : Hp) : Option (Int64 × Hp) :=
  b1 (f_X9_isShelf v1 h) fun x3 h1 =>
  b1 ((if x3 = (0 : Int32) then
      some ((-1000000000000), h1)
    else
      b1 (f_X9_isShelf v2 h1) fun x21 h19 =>
      if x21 = (0 : Int32) then
        some ((-1000000000000), h19)
      else
        (rc h19 (some a0) 8).bind fun g25 =>
        b1 (f_X9_allOf g25 v1 v3 v4 h19) fun x27 h23 =>
        (rc h23 (some a0) 8).bind fun g30 =>
        b1 (f_X9_allOf g30 v2 v3 v4 h23) fun x32 h28 =>
        some ((x27 - x32), h28) : Option (Int64 × Hp))) fun w33 h34 =>
  some (w33, h34)
set_option maxHeartbeats 4000000 in
theorem t_X9_quarrels (E : En) (d : Nat) {mc ms : Nat} {a0 : Nat} {v1 : Int32} {v2 : Int32} {v3 : Int32} {v4 : Int32} {h h' : Hp} {r : Int64} {K : Option Vv → Hp → Prop} (hf : f_X9_quarrels a0 v1 v2 v3 v4 h = some (r, h')) (hk : K (some (vl r)) h') : MC E m_X9_quarrels (d + 9) mc ms [vq (some a0), vi v1, vi v2, vi v3, vi v4] h K := by
  unfold f_X9_quarrels at hf
  show MW E m_X9_quarrels (d + 9) mc ms 0 [some (vq (some a0)), some (vi v1), some (vi v2), some (vi v3), some (vi v4)] [] h K
  refine mw_iload_n (x := v1) dX9_quarrels_0 rfl ?_
  obtain ⟨x3, h1, e2, hf⟩ := ob1 hf
  refine ml_callS (mc' := 0) (ms' := 0) [vi v1] dX9_quarrels_1 mk_X9_isShelf lk_RX9_200 st_X9_isShelf rfl (Nat.le_of_ble_eq_true rfl) (Nat.le_of_ble_eq_true rfl) (t_X9_isShelf E _ e2 isR_rfl) ?_
  obtain ⟨w33, h34, r35, hf⟩ := ob1 hf
  have J36 : MW E m_X9_quarrels (d + 9) mc ms 37 [none, none, none, none, none] [vl w33] h34 K := by
    obtain ⟨rfl, rfl⟩ := y1 hf
    exact mw_lreturn dX9_quarrels_37 rfl hk
  refine mw_if_eq (tgt := 34) dX9_quarrels_4 rfl (fun c4 => ?_) (fun c4 => ?_)
  · rw [if_pos c4] at r35
    refine mw_ldc2 dX9_quarrels_34 kc_RX9_488 ?_
    obtain ⟨rfl, rfl⟩ := y1 r35
    exact MW.sub (subL_n (subL_n (subL_n (subL_n (subL_n subL_nil))))) J36
  · rw [if_neg c4] at r35
    refine mw_iload_n (x := v2) dX9_quarrels_7 rfl ?_
    obtain ⟨x21, h19, e20, r35⟩ := ob1 r35
    refine ml_callS (mc' := 0) (ms' := 0) [vi v2] dX9_quarrels_8 mk_X9_isShelf lk_RX9_200 st_X9_isShelf rfl (Nat.le_of_ble_eq_true rfl) (Nat.le_of_ble_eq_true rfl) (t_X9_isShelf E _ e20 isR_rfl) ?_
    refine mw_if_eq (tgt := 34) dX9_quarrels_11 rfl (fun c22 => ?_) (fun c22 => ?_)
    · rw [if_pos c22] at r35
      refine mw_ldc2 dX9_quarrels_34 kc_RX9_488 ?_
      obtain ⟨rfl, rfl⟩ := y1 r35
      exact MW.sub (subL_n (subL_n (subL_n (subL_n (subL_n subL_nil))))) J36
    · rw [if_neg c22] at r35
      refine mw_aload_n (x := (some a0)) dX9_quarrels_14 rfl ?_
      refine mw_iload_n (x := v1) dX9_quarrels_15 rfl ?_
      refine mw_iload_n (x := v3) dX9_quarrels_16 rfl ?_
      refine mw_iload (x := v4) dX9_quarrels_17 rfl ?_
      obtain ⟨g25, e26, r35⟩ := ob r35
      obtain ⟨x27, h23, e24, r35⟩ := ob1 r35
      refine ml_callV (ci := 8) (mc' := 0) (ms' := 0) [vi v1, vi v3, vi v4] dX9_quarrels_19 mk_X9_allOf lk_RX9_484 im_X9_allOf se_X9_allOf (by decide) e26 rfl (Nat.le_of_ble_eq_true rfl) (Nat.le_of_ble_eq_true rfl) (t_X9_allOf E _ e24 isR_rfl) ?_
      refine mw_aload_n (x := (some a0)) dX9_quarrels_22 rfl ?_
      refine mw_iload_n (x := v2) dX9_quarrels_23 rfl ?_
      refine mw_iload_n (x := v3) dX9_quarrels_24 rfl ?_
      refine mw_iload (x := v4) dX9_quarrels_25 rfl ?_
      obtain ⟨g30, e31, r35⟩ := ob r35
      obtain ⟨x32, h28, e29, r35⟩ := ob1 r35
      refine ml_callV (ci := 8) (mc' := 0) (ms' := 0) [vi v2, vi v3, vi v4] dX9_quarrels_27 mk_X9_allOf lk_RX9_484 im_X9_allOf se_X9_allOf (by decide) e31 rfl (Nat.le_of_ble_eq_true rfl) (Nat.le_of_ble_eq_true rfl) (t_X9_allOf E _ e29 isR_rfl) ?_
      refine mw_lsub dX9_quarrels_30 ?_
      refine mw_goto (tgt := 37) dX9_quarrels_31 rfl ?_
      obtain ⟨rfl, rfl⟩ := y1 r35
      exact MW.sub (subL_n (subL_n (subL_n (subL_n (subL_n subL_nil))))) J36
def f_X9_settledBy_L7 : Nat → Nat → Int32 → Int32 → Int64 → Int32 → Hp → Option ((Int32 × Hp))
  | 0, _, _, _, _, _, _ => none
  | n + 1, a0, v1, v2, v3, v5, h =>
    (getI h (some a0) 8 40).bind fun x1 =>
    if x1 ≤ v5 then
      some (v2, h)
    else
      b1 ((if ((v1 >>> (v5 &&& 31)) &&& (1 : Int32)) = (1 : Int32) then
          (getQ h (some a0) 8 68).bind fun x9 =>
          (rdI h x9 10 v5).bind fun x11 =>
          some ((v2 ||| x11), h)
        else
          some (v2, h) : Option (Int32 × Hp))) fun w13 h14 =>
      f_X9_settledBy_L7 n a0 v1 w13 v3 (v5 + 1) h14
def f_X9_settledBy_L45 : Nat → Nat → Int32 → Int64 → Int32 → Hp → Option ((Int64 × Hp))
  | 0, _, _, _, _, _ => none
  | n + 1, a0, v2, v3, v5, h =>
    (getI h (some a0) 8 40).bind fun x18 =>
    if x18 ≤ v5 then
      some (v3, h)
    else
      (getQ h (some a0) 8 68).bind fun x21 =>
      (rdI h x21 10 v5).bind fun x23 =>
      b1 ((if (x23 &&& (v2 ^^^ ((-1) : Int32))) = (0 : Int32) then
          (getQ h (some a0) 8 67).bind fun x30 =>
          (rdJ h x30 11 v5).bind fun x32 =>
          some ((v3 + x32), h)
        else
          some (v3, h) : Option (Int64 × Hp))) fun w34 h35 =>
      f_X9_settledBy_L45 n a0 v2 w34 (v5 + 1) h35
def f_X9_settledBy (a0 : Nat) (v1 : Int32) (h : Hp) : Option (Int64 × Hp) :=
  b1 (f_X9_settledBy_L7 fu a0 v1 0 0 0 h) fun w16 h17 =>
  b1 (f_X9_settledBy_L45 fu a0 w16 0 0 h17) fun w37 h38 =>
  some (w37, h38)
set_option maxHeartbeats 4000000 in
theorem tl_X9_settledBy_7 (E : En) (d : Nat) {mc ms : Nat} {K : Option Vv → Hp → Prop} : ∀ (n : Nat) (a0 : Nat) (v1 : Int32) (v2 : Int32) (v3 : Int64) (v5 : Int32) (h : Hp) (u2 : Int32) (hz : Hp), f_X9_settledBy_L7 n a0 v1 v2 v3 v5 h = some (u2, hz) → MW E m_X9_settledBy (d + 0) mc ms 42 [some (vq (some a0)), none, some (vi u2), some (vl v3), none, none] [] hz K → MW E m_X9_settledBy (d + 0) mc ms 7 [some (vq (some a0)), some (vi v1), some (vi v2), some (vl v3), none, some (vi v5)] [] h K := by
  intro n
  induction n with
  | zero => intro a0 v1 v2 v3 v5 h u2 hz hf; exact nomatch (show none = some _ from hf)
  | succ n ih =>
    intro a0 v1 v2 v3 v5 h u2 hz hf hX42
    rw [f_X9_settledBy_L7] at hf
    refine mw_iload (x := v5) dX9_settledBy_7 rfl ?_
    refine mw_aload_n (x := (some a0)) dX9_settledBy_9 rfl ?_
    obtain ⟨x1, e2, hf⟩ := ob hf
    refine ml_getI dX9_settledBy_10 fl_RX9_337 rfl e2 ?_
    refine mw_icmp_ge (tgt := 42) dX9_settledBy_13 rfl (fun c3 => ?_) (fun c3 => ?_)
    · rw [if_pos c3] at hf
      obtain ⟨rfl, rfl⟩ := y1 hf
      exact MW.sub (subL_s (subL_n (subL_s (subL_s (subL_n (subL_n subL_nil)))))) hX42
    · rw [if_neg c3] at hf
      refine mw_iload_n (x := v1) dX9_settledBy_16 rfl ?_
      refine mw_iload (x := v5) dX9_settledBy_17 rfl ?_
      refine mw_ishr dX9_settledBy_19 ?_
      refine mw_iconst (v := 1) dX9_settledBy_20 (by decide) ?_
      refine mw_iand dX9_settledBy_21 ?_
      refine mw_iconst (v := 1) dX9_settledBy_22 (by decide) ?_
      obtain ⟨w13, h14, r15, hf⟩ := ob1 hf
      have J43 : MW E m_X9_settledBy (d + 0) mc ms 36 [some (vq (some a0)), some (vi v1), some (vi w13), some (vl v3), none, some (vi v5)] [] h14 K := by
        refine mw_iinc (x := v5) (v := v5 + 1) dX9_settledBy_36 rfl rfl (by decide) rfl ?_
        refine mw_goto (tgt := 7) dX9_settledBy_39 rfl ?_
        exact MW.sub (subL_s (subL_s (subL_s (subL_s (subL_n (subL_s subL_nil)))))) (ih _ _ _ _ _ _ _ _ hf hX42)
      refine mw_icmp_ne (tgt := 36) dX9_settledBy_23 rfl (fun c4 => ?_) (fun c4 => ?_)
      · rw [if_neg c4] at r15
        obtain ⟨rfl, rfl⟩ := y1 r15
        exact MW.sub (subL_s (subL_s (subL_s (subL_s (subL_n (subL_s subL_nil)))))) J43
      · rw [if_pos c4] at r15
        refine mw_iload_n (x := v2) dX9_settledBy_26 rfl ?_
        refine mw_aload_n (x := (some a0)) dX9_settledBy_27 rfl ?_
        obtain ⟨x9, e10, r15⟩ := ob r15
        refine ml_getQ dX9_settledBy_28 fl_RX9_193 rfl e10 ?_
        refine mw_iload (x := v5) dX9_settledBy_31 rfl ?_
        obtain ⟨x11, e12, r15⟩ := ob r15
        refine ml_iald dX9_settledBy_33 e12 ?_
        refine mw_ior dX9_settledBy_34 ?_
        refine mw_istore_n dX9_settledBy_35 (by decide) rfl ?_
        obtain ⟨rfl, rfl⟩ := y1 r15
        exact MW.sub (subL_s (subL_s (subL_s (subL_s (subL_n (subL_s subL_nil)))))) J43
set_option maxHeartbeats 4000000 in
theorem tl_X9_settledBy_45 (E : En) (d : Nat) {mc ms : Nat} {K : Option Vv → Hp → Prop} : ∀ (n : Nat) (a0 : Nat) (v2 : Int32) (v3 : Int64) (v5 : Int32) (h : Hp) (u3 : Int64) (hz : Hp), f_X9_settledBy_L45 n a0 v2 v3 v5 h = some (u3, hz) → MW E m_X9_settledBy (d + 0) mc ms 84 [none, none, none, some (vl u3), none, none] [] hz K → MW E m_X9_settledBy (d + 0) mc ms 45 [some (vq (some a0)), none, some (vi v2), some (vl v3), none, some (vi v5)] [] h K := by
  intro n
  induction n with
  | zero => intro a0 v2 v3 v5 h u3 hz hf; exact nomatch (show none = some _ from hf)
  | succ n ih =>
    intro a0 v2 v3 v5 h u3 hz hf hX84
    rw [f_X9_settledBy_L45] at hf
    refine mw_iload (x := v5) dX9_settledBy_45 rfl ?_
    refine mw_aload_n (x := (some a0)) dX9_settledBy_47 rfl ?_
    obtain ⟨x18, e19, hf⟩ := ob hf
    refine ml_getI dX9_settledBy_48 fl_RX9_337 rfl e19 ?_
    refine mw_icmp_ge (tgt := 84) dX9_settledBy_51 rfl (fun c20 => ?_) (fun c20 => ?_)
    · rw [if_pos c20] at hf
      obtain ⟨rfl, rfl⟩ := y1 hf
      exact MW.sub (subL_n (subL_n (subL_n (subL_s (subL_n (subL_n subL_nil)))))) hX84
    · rw [if_neg c20] at hf
      refine mw_aload_n (x := (some a0)) dX9_settledBy_54 rfl ?_
      obtain ⟨x21, e22, hf⟩ := ob hf
      refine ml_getQ dX9_settledBy_55 fl_RX9_193 rfl e22 ?_
      refine mw_iload (x := v5) dX9_settledBy_58 rfl ?_
      obtain ⟨x23, e24, hf⟩ := ob hf
      refine ml_iald dX9_settledBy_60 e24 ?_
      refine mw_iload_n (x := v2) dX9_settledBy_61 rfl ?_
      refine mw_iconst (v := (-1)) dX9_settledBy_62 (by decide) ?_
      refine mw_ixor dX9_settledBy_63 ?_
      refine mw_iand dX9_settledBy_64 ?_
      obtain ⟨w34, h35, r36, hf⟩ := ob1 hf
      have J44 : MW E m_X9_settledBy (d + 0) mc ms 78 [some (vq (some a0)), none, some (vi v2), some (vl w34), none, some (vi v5)] [] h35 K := by
        refine mw_iinc (x := v5) (v := v5 + 1) dX9_settledBy_78 rfl rfl (by decide) rfl ?_
        refine mw_goto (tgt := 45) dX9_settledBy_81 rfl ?_
        exact MW.sub (subL_s (subL_n (subL_s (subL_s (subL_n (subL_s subL_nil)))))) (ih _ _ _ _ _ _ _ hf hX84)
      refine mw_if_ne (tgt := 78) dX9_settledBy_65 rfl (fun c25 => ?_) (fun c25 => ?_)
      · rw [if_neg c25] at r36
        obtain ⟨rfl, rfl⟩ := y1 r36
        exact MW.sub (subL_s (subL_n (subL_s (subL_s (subL_n (subL_s subL_nil)))))) J44
      · rw [if_pos c25] at r36
        refine mw_lload_n (x := v3) dX9_settledBy_68 rfl ?_
        refine mw_aload_n (x := (some a0)) dX9_settledBy_69 rfl ?_
        obtain ⟨x30, e31, r36⟩ := ob r36
        refine ml_getQ dX9_settledBy_70 fl_RX9_190 rfl e31 ?_
        refine mw_iload (x := v5) dX9_settledBy_73 rfl ?_
        obtain ⟨x32, e33, r36⟩ := ob r36
        refine ml_lald dX9_settledBy_75 e33 ?_
        refine mw_ladd dX9_settledBy_76 ?_
        refine mw_lstore_n dX9_settledBy_77 (by decide) rfl ?_
        obtain ⟨rfl, rfl⟩ := y1 r36
        exact MW.sub (subL_s (subL_n (subL_s (subL_s (subL_n (subL_s subL_nil)))))) J44
set_option maxHeartbeats 4000000 in
theorem t_X9_settledBy (E : En) (d : Nat) {mc ms : Nat} {a0 : Nat} {v1 : Int32} {h h' : Hp} {r : Int64} {K : Option Vv → Hp → Prop} (hf : f_X9_settledBy a0 v1 h = some (r, h')) (hk : K (some (vl r)) h') : MC E m_X9_settledBy (d + 0) mc ms [vq (some a0), vi v1] h K := by
  unfold f_X9_settledBy at hf
  show MW E m_X9_settledBy (d + 0) mc ms 0 [some (vq (some a0)), some (vi v1), none, none, none, none] [] h K
  refine mw_iconst (v := 0) dX9_settledBy_0 (by decide) ?_
  refine mw_istore_n dX9_settledBy_1 (by decide) rfl ?_
  refine mw_lconst (v := 0) dX9_settledBy_2 (by decide) ?_
  refine mw_lstore_n dX9_settledBy_3 (by decide) rfl ?_
  refine mw_iconst (v := 0) dX9_settledBy_4 (by decide) ?_
  refine mw_istore dX9_settledBy_5 (by decide) rfl ?_
  obtain ⟨w16, h17, e41, hf⟩ := ob1 hf
  refine MW.sub (subL_s (subL_s (subL_s (subL_s (subL_n (subL_s subL_nil)))))) (tl_X9_settledBy_7 E d _ _ _ _ _ _ _ _ _ e41 ?_)
  refine mw_iconst (v := 0) dX9_settledBy_42 (by decide) ?_
  refine mw_istore dX9_settledBy_43 (by decide) rfl ?_
  obtain ⟨w37, h38, e39, hf⟩ := ob1 hf
  refine MW.sub (subL_s (subL_n (subL_s (subL_s (subL_n (subL_s subL_nil)))))) (tl_X9_settledBy_45 E d _ _ _ _ _ _ _ _ e39 ?_)
  refine mw_lload_n (x := w37) dX9_settledBy_84 rfl ?_
  obtain ⟨rfl, rfl⟩ := y1 hf
  exact mw_lreturn dX9_settledBy_85 rfl hk
def f_X9_seek_L22 : Nat → Nat → Int32 → Int32 → Int32 → Int32 → Int32 → Hp → Option ((Hp))
  | 0, _, _, _, _, _, _, _ => none
  | n + 1, a0, v1, v2, v3, v4, v5, h =>
    (getI h (some a0) 8 40).bind fun x9 =>
    if x9 ≤ v5 then
      some h
    else
      (getQ h (some a0) 8 67).bind fun x12 =>
      (rc h (some a0) 8).bind fun g16 =>
      b1 (f_X9_payoutOf g16 v1 v5 v3 v4 h) fun x18 h14 =>
      (wrJ h14 x12 v5 x18).bind fun h19 =>
      (getQ h19 (some a0) 8 68).bind fun x21 =>
      (getI h19 (some a0) 8 66).bind fun x23 =>
      (wrI h19 x21 v5 x23).bind fun h25 =>
      f_X9_seek_L22 n a0 v1 v2 v3 v4 (v5 + 1) h25
def f_X9_seek_L82 : Nat → Nat → Int32 → Int32 → Hp → Option ((Hp))
  | 0, _, _, _, _ => none
  | n + 1, a0, v2, v5, h =>
    (getI h (some a0) 8 40).bind fun x37 =>
    if ((1 : Int32) <<< (x37 &&& 31)) ≤ v5 then
      some h
    else
      (rc h (some a0) 8).bind fun g42 =>
      b1 (f_X9_canBe g42 v5 v2 h) fun x44 h40 =>
      Option.bind ((if x44 = (0 : Int32) then
          some h40
        else
          (rc h40 (some a0) 8).bind fun g76 =>
          b1 (f_X9_settledBy g76 v5 h40) fun x78 h74 =>
          (getJ h74 (some a0) 8 70).bind fun x79 =>
          if (lg_cmp x78 x79) < (0 : Int32) then
            some h74
          else
            (getJ h74 (some a0) 8 70).bind fun x82 =>
            if (lg_cmp x78 x82) = (0 : Int32) then
              b1 (f_X9_bitsOf v5 h74) fun x91 h89 =>
              (getI h89 (some a0) 8 69).bind fun x92 =>
              b1 (f_X9_bitsOf x92 h89) fun x96 h94 =>
              if x91 < x96 then
                (putI h94 (some a0) 8 69 v5).bind fun h98 =>
                (putJ h98 (some a0) 8 70 x78).bind fun h100 =>
                some h100
              else
                some h94
            else
              (putI h74 (some a0) 8 69 v5).bind fun h85 =>
              (putJ h85 (some a0) 8 70 x78).bind fun h87 =>
              some h87 : Option (Hp))) fun h102 =>
      f_X9_seek_L82 n a0 v2 (v5 + 1) h102
def f_X9_seek (a0 : Nat) (v1 : Int32) (v2 : Int32) (v3 : Int32) (v4 : Int32) (h : Hp) : Option (Int32 × Hp) :=
  b1 (f_X9_isShelf v1 h) fun x3 h1 =>
  if x3 = (0 : Int32) then
    some (0, h1)
  else
    b1 (f_X9_isIn v2 (0 : Int32) (10 : Int32) h1) fun x7 h5 =>
    if x7 = (0 : Int32) then
      some (0, h5)
    else
      (f_X9_seek_L22 fu a0 v1 v2 v3 v4 0 h5).bind fun h27 =>
      (putI h27 (some a0) 8 69 0).bind fun h28 =>
      (rc h28 (some a0) 8).bind fun g32 =>
      b1 (f_X9_settledBy g32 (0 : Int32) h28) fun x34 h30 =>
      (putJ h30 (some a0) 8 70 x34).bind fun h35 =>
      (f_X9_seek_L82 fu a0 v2 1 h35).bind fun h104 =>
      some (1, h104)
set_option maxHeartbeats 4000000 in
theorem tl_X9_seek_22 (E : En) (d : Nat) {mc ms : Nat} {K : Option Vv → Hp → Prop} : ∀ (n : Nat) (a0 : Nat) (v1 : Int32) (v2 : Int32) (v3 : Int32) (v4 : Int32) (v5 : Int32) (h : Hp) (hz : Hp), f_X9_seek_L22 n a0 v1 v2 v3 v4 v5 h = some hz → MW E m_X9_seek (d + 8) mc ms 65 [some (vq (some a0)), none, some (vi v2), none, none, none, none, none] [] hz K → MW E m_X9_seek (d + 8) mc ms 22 [some (vq (some a0)), some (vi v1), some (vi v2), some (vi v3), some (vi v4), some (vi v5), none, none] [] h K := by
  intro n
  induction n with
  | zero => intro a0 v1 v2 v3 v4 v5 h hz hf; exact nomatch (show none = some _ from hf)
  | succ n ih =>
    intro a0 v1 v2 v3 v4 v5 h hz hf hX65
    rw [f_X9_seek_L22] at hf
    refine mw_iload (x := v5) dX9_seek_22 rfl ?_
    refine mw_aload_n (x := (some a0)) dX9_seek_24 rfl ?_
    obtain ⟨x9, e10, hf⟩ := ob hf
    refine ml_getI dX9_seek_25 fl_RX9_337 rfl e10 ?_
    refine mw_icmp_ge (tgt := 65) dX9_seek_28 rfl (fun c11 => ?_) (fun c11 => ?_)
    · rw [if_pos c11] at hf
      obtain rfl := y0 hf
      exact MW.sub (subL_s (subL_n (subL_s (subL_n (subL_n (subL_n (subL_n (subL_n subL_nil)))))))) hX65
    · rw [if_neg c11] at hf
      refine mw_aload_n (x := (some a0)) dX9_seek_31 rfl ?_
      obtain ⟨x12, e13, hf⟩ := ob hf
      refine ml_getQ dX9_seek_32 fl_RX9_190 rfl e13 ?_
      refine mw_iload (x := v5) dX9_seek_35 rfl ?_
      refine mw_aload_n (x := (some a0)) dX9_seek_37 rfl ?_
      refine mw_iload_n (x := v1) dX9_seek_38 rfl ?_
      refine mw_iload (x := v5) dX9_seek_39 rfl ?_
      refine mw_iload_n (x := v3) dX9_seek_41 rfl ?_
      refine mw_iload (x := v4) dX9_seek_42 rfl ?_
      obtain ⟨g16, e17, hf⟩ := ob hf
      obtain ⟨x18, h14, e15, hf⟩ := ob1 hf
      refine ml_callV (ci := 8) (mc' := 0) (ms' := 0) [vi v1, vi v5, vi v3, vi v4] dX9_seek_44 mk_X9_payoutOf lk_RX9_480 im_X9_payoutOf se_X9_payoutOf (by decide) e17 rfl (Nat.le_of_ble_eq_true rfl) (Nat.le_of_ble_eq_true rfl) (t_X9_payoutOf E _ e15 isR_rfl) ?_
      obtain ⟨h19, e20, hf⟩ := ob hf
      refine ml_last dX9_seek_47 e20 ?_
      refine mw_aload_n (x := (some a0)) dX9_seek_48 rfl ?_
      obtain ⟨x21, e22, hf⟩ := ob hf
      refine ml_getQ dX9_seek_49 fl_RX9_193 rfl e22 ?_
      refine mw_iload (x := v5) dX9_seek_52 rfl ?_
      refine mw_aload_n (x := (some a0)) dX9_seek_54 rfl ?_
      obtain ⟨x23, e24, hf⟩ := ob hf
      refine ml_getI dX9_seek_55 fl_RX9_477 rfl e24 ?_
      obtain ⟨h25, e26, hf⟩ := ob hf
      refine ml_iast dX9_seek_58 e26 ?_
      refine mw_iinc (x := v5) (v := v5 + 1) dX9_seek_59 rfl rfl (by decide) rfl ?_
      refine mw_goto (tgt := 22) dX9_seek_62 rfl ?_
      exact MW.sub (subL_s (subL_s (subL_s (subL_s (subL_s (subL_s (subL_n (subL_n subL_nil)))))))) (ih _ _ _ _ _ _ _ _ hf hX65)
set_option maxHeartbeats 4000000 in
theorem tl_X9_seek_82 (E : En) (d : Nat) {mc ms : Nat} {K : Option Vv → Hp → Prop} : ∀ (n : Nat) (a0 : Nat) (v2 : Int32) (v5 : Int32) (h : Hp) (hz : Hp), f_X9_seek_L82 n a0 v2 v5 h = some hz → MW E m_X9_seek (d + 8) mc ms 170 [none, none, none, none, none, none, none, none] [] hz K → MW E m_X9_seek (d + 8) mc ms 82 [some (vq (some a0)), none, some (vi v2), none, none, some (vi v5), none, none] [] h K := by
  intro n
  induction n with
  | zero => intro a0 v2 v5 h hz hf; exact nomatch (show none = some _ from hf)
  | succ n ih =>
    intro a0 v2 v5 h hz hf hX170
    rw [f_X9_seek_L82] at hf
    refine mw_iload (x := v5) dX9_seek_82 rfl ?_
    refine mw_iconst (v := 1) dX9_seek_84 (by decide) ?_
    refine mw_aload_n (x := (some a0)) dX9_seek_85 rfl ?_
    obtain ⟨x37, e38, hf⟩ := ob hf
    refine ml_getI dX9_seek_86 fl_RX9_337 rfl e38 ?_
    refine mw_ishl dX9_seek_89 ?_
    refine mw_icmp_ge (tgt := 170) dX9_seek_90 rfl (fun c39 => ?_) (fun c39 => ?_)
    · rw [if_pos c39] at hf
      obtain rfl := y0 hf
      exact MW.sub (subL_n (subL_n (subL_n (subL_n (subL_n (subL_n (subL_n (subL_n subL_nil)))))))) hX170
    · rw [if_neg c39] at hf
      refine mw_aload_n (x := (some a0)) dX9_seek_93 rfl ?_
      refine mw_iload (x := v5) dX9_seek_94 rfl ?_
      refine mw_iload_n (x := v2) dX9_seek_96 rfl ?_
      obtain ⟨g42, e43, hf⟩ := ob hf
      obtain ⟨x44, h40, e41, hf⟩ := ob1 hf
      refine ml_callV (ci := 8) (mc' := 0) (ms' := 0) [vi v5, vi v2] dX9_seek_97 mk_X9_canBe lk_RX9_500 im_X9_canBe se_X9_canBe (by decide) e43 rfl (Nat.le_of_ble_eq_true rfl) (Nat.le_of_ble_eq_true rfl) (t_X9_canBe E _ e41 isR_rfl) ?_
      obtain ⟨h102, r103, hf⟩ := ob hf
      have J109 : MW E m_X9_seek (d + 8) mc ms 164 [some (vq (some a0)), none, some (vi v2), none, none, some (vi v5), none, none] [] h102 K := by
        refine mw_iinc (x := v5) (v := v5 + 1) dX9_seek_164 rfl rfl (by decide) rfl ?_
        refine mw_goto (tgt := 82) dX9_seek_167 rfl ?_
        exact MW.sub (subL_s (subL_n (subL_s (subL_n (subL_n (subL_s (subL_n (subL_n subL_nil)))))))) (ih _ _ _ _ _ hf hX170)
      refine mw_if_ne (tgt := 106) dX9_seek_100 rfl (fun c45 => ?_) (fun c45 => ?_)
      · rw [if_neg c45] at r103
        refine mw_aload_n (x := (some a0)) dX9_seek_106 rfl ?_
        refine mw_iload (x := v5) dX9_seek_107 rfl ?_
        obtain ⟨g76, e77, r103⟩ := ob r103
        obtain ⟨x78, h74, e75, r103⟩ := ob1 r103
        refine ml_callV (ci := 8) (mc' := 0) (ms' := 0) [vi v5] dX9_seek_109 mk_X9_settledBy lk_RX9_493 im_X9_settledBy se_X9_settledBy (by decide) e77 rfl (Nat.le_of_ble_eq_true rfl) (Nat.le_of_ble_eq_true rfl) (t_X9_settledBy E _ e75 isR_rfl) ?_
        refine mw_lstore dX9_seek_112 (by decide) rfl ?_
        refine mw_lload (x := x78) dX9_seek_114 rfl ?_
        refine mw_aload_n (x := (some a0)) dX9_seek_116 rfl ?_
        obtain ⟨x79, e80, r103⟩ := ob r103
        refine ml_getJ dX9_seek_117 fl_RX9_497 rfl e80 ?_
        refine mw_lcmp dX9_seek_120 ?_
        refine mw_if_lt (tgt := 164) dX9_seek_121 rfl (fun c81 => ?_) (fun c81 => ?_)
        · rw [if_pos c81] at r103
          obtain rfl := y0 r103
          exact MW.sub (subL_s (subL_n (subL_s (subL_n (subL_n (subL_s (subL_n (subL_n subL_nil)))))))) J109
        · rw [if_neg c81] at r103
          refine mw_lload (x := x78) dX9_seek_124 rfl ?_
          refine mw_aload_n (x := (some a0)) dX9_seek_126 rfl ?_
          obtain ⟨x82, e83, r103⟩ := ob r103
          refine ml_getJ dX9_seek_127 fl_RX9_497 rfl e83 ?_
          refine mw_lcmp dX9_seek_130 ?_
          refine mw_if_ne (tgt := 152) dX9_seek_131 rfl (fun c84 => ?_) (fun c84 => ?_)
          · rw [if_neg c84] at r103
            refine mw_aload_n (x := (some a0)) dX9_seek_152 rfl ?_
            refine mw_iload (x := v5) dX9_seek_153 rfl ?_
            obtain ⟨h85, e86, r103⟩ := ob r103
            refine ml_putI dX9_seek_155 fl_RX9_490 (Or.inl rfl) rfl rfl e86 ?_
            refine mw_aload_n (x := (some a0)) dX9_seek_158 rfl ?_
            refine mw_lload (x := x78) dX9_seek_159 rfl ?_
            obtain ⟨h87, e88, r103⟩ := ob r103
            refine ml_putJ dX9_seek_161 fl_RX9_497 (Or.inl rfl) rfl rfl e88 ?_
            obtain rfl := y0 r103
            exact MW.sub (subL_s (subL_n (subL_s (subL_n (subL_n (subL_s (subL_n (subL_n subL_nil)))))))) J109
          · rw [if_pos c84] at r103
            refine mw_iload (x := v5) dX9_seek_134 rfl ?_
            obtain ⟨x91, h89, e90, r103⟩ := ob1 r103
            refine ml_callS (mc' := 0) (ms' := 0) [vi v5] dX9_seek_136 mk_X9_bitsOf lk_RX9_397 st_X9_bitsOf rfl (Nat.le_of_ble_eq_true rfl) (Nat.le_of_ble_eq_true rfl) (t_X9_bitsOf E _ e90 isR_rfl) ?_
            refine mw_aload_n (x := (some a0)) dX9_seek_139 rfl ?_
            obtain ⟨x92, e93, r103⟩ := ob r103
            refine ml_getI dX9_seek_140 fl_RX9_490 rfl e93 ?_
            obtain ⟨x96, h94, e95, r103⟩ := ob1 r103
            refine ml_callS (mc' := 0) (ms' := 0) [vi x92] dX9_seek_143 mk_X9_bitsOf lk_RX9_397 st_X9_bitsOf rfl (Nat.le_of_ble_eq_true rfl) (Nat.le_of_ble_eq_true rfl) (t_X9_bitsOf E _ e95 isR_rfl) ?_
            refine mw_icmp_lt (tgt := 152) dX9_seek_146 rfl (fun c97 => ?_) (fun c97 => ?_)
            · rw [if_pos c97] at r103
              refine mw_aload_n (x := (some a0)) dX9_seek_152 rfl ?_
              refine mw_iload (x := v5) dX9_seek_153 rfl ?_
              obtain ⟨h98, e99, r103⟩ := ob r103
              refine ml_putI dX9_seek_155 fl_RX9_490 (Or.inl rfl) rfl rfl e99 ?_
              refine mw_aload_n (x := (some a0)) dX9_seek_158 rfl ?_
              refine mw_lload (x := x78) dX9_seek_159 rfl ?_
              obtain ⟨h100, e101, r103⟩ := ob r103
              refine ml_putJ dX9_seek_161 fl_RX9_497 (Or.inl rfl) rfl rfl e101 ?_
              obtain rfl := y0 r103
              exact MW.sub (subL_s (subL_n (subL_s (subL_n (subL_n (subL_s (subL_n (subL_n subL_nil)))))))) J109
            · rw [if_neg c97] at r103
              refine mw_goto (tgt := 164) dX9_seek_149 rfl ?_
              obtain rfl := y0 r103
              exact MW.sub (subL_s (subL_n (subL_s (subL_n (subL_n (subL_s (subL_n (subL_n subL_nil)))))))) J109
      · rw [if_pos c45] at r103
        refine mw_goto (tgt := 164) dX9_seek_103 rfl ?_
        obtain rfl := y0 r103
        exact MW.sub (subL_s (subL_n (subL_s (subL_n (subL_n (subL_s (subL_n (subL_n subL_nil)))))))) J109
set_option maxHeartbeats 4000000 in
theorem t_X9_seek (E : En) (d : Nat) {mc ms : Nat} {a0 : Nat} {v1 : Int32} {v2 : Int32} {v3 : Int32} {v4 : Int32} {h h' : Hp} {r : Int32} {K : Option Vv → Hp → Prop} (hf : f_X9_seek a0 v1 v2 v3 v4 h = some (r, h')) (hk : K (some (vi r)) h') : MC E m_X9_seek (d + 8) mc ms [vq (some a0), vi v1, vi v2, vi v3, vi v4] h K := by
  unfold f_X9_seek at hf
  show MW E m_X9_seek (d + 8) mc ms 0 [some (vq (some a0)), some (vi v1), some (vi v2), some (vi v3), some (vi v4), none, none, none] [] h K
  refine mw_iload_n (x := v1) dX9_seek_0 rfl ?_
  obtain ⟨x3, h1, e2, hf⟩ := ob1 hf
  refine ml_callS (mc' := 0) (ms' := 0) [vi v1] dX9_seek_1 mk_X9_isShelf lk_RX9_200 st_X9_isShelf rfl (Nat.le_of_ble_eq_true rfl) (Nat.le_of_ble_eq_true rfl) (t_X9_isShelf E _ e2 isR_rfl) ?_
  refine mw_if_eq (tgt := 17) dX9_seek_4 rfl (fun c4 => ?_) (fun c4 => ?_)
  · rw [if_pos c4] at hf
    refine mw_iconst (v := 0) dX9_seek_17 (by decide) ?_
    obtain ⟨rfl, rfl⟩ := y1 hf
    exact mw_ireturn dX9_seek_18 rfl rfl hk
  · rw [if_neg c4] at hf
    refine mw_iload_n (x := v2) dX9_seek_7 rfl ?_
    refine mw_iconst (v := 0) dX9_seek_8 (by decide) ?_
    refine mw_bipush (v := 10) dX9_seek_9 (by decide) ?_
    obtain ⟨x7, h5, e6, hf⟩ := ob1 hf
    refine ml_callS (mc' := 0) (ms' := 0) [vi v2, vi (0 : Int32), vi (10 : Int32)] dX9_seek_11 mk_X9_isIn lk_RX9_333 st_X9_isIn rfl (Nat.le_of_ble_eq_true rfl) (Nat.le_of_ble_eq_true rfl) (t_X9_isIn E _ e6 isR_rfl) ?_
    refine mw_if_ne (tgt := 19) dX9_seek_14 rfl (fun c8 => ?_) (fun c8 => ?_)
    · rw [if_neg c8] at hf
      refine mw_iconst (v := 0) dX9_seek_19 (by decide) ?_
      refine mw_istore dX9_seek_20 (by decide) rfl ?_
      obtain ⟨h27, e107, hf⟩ := ob hf
      refine MW.sub (subL_s (subL_s (subL_s (subL_s (subL_s (subL_s (subL_n (subL_n subL_nil)))))))) (tl_X9_seek_22 E d _ _ _ _ _ _ _ _ _ e107 ?_)
      refine mw_aload_n (x := (some a0)) dX9_seek_65 rfl ?_
      refine mw_iconst (v := 0) dX9_seek_66 (by decide) ?_
      obtain ⟨h28, e29, hf⟩ := ob hf
      refine ml_putI dX9_seek_67 fl_RX9_490 (Or.inl rfl) rfl rfl e29 ?_
      refine mw_aload_n (x := (some a0)) dX9_seek_70 rfl ?_
      refine mw_aload_n (x := (some a0)) dX9_seek_71 rfl ?_
      refine mw_iconst (v := 0) dX9_seek_72 (by decide) ?_
      obtain ⟨g32, e33, hf⟩ := ob hf
      obtain ⟨x34, h30, e31, hf⟩ := ob1 hf
      refine ml_callV (ci := 8) (mc' := 0) (ms' := 0) [vi (0 : Int32)] dX9_seek_73 mk_X9_settledBy lk_RX9_493 im_X9_settledBy se_X9_settledBy (by decide) e33 rfl (Nat.le_of_ble_eq_true rfl) (Nat.le_of_ble_eq_true rfl) (t_X9_settledBy E _ e31 isR_rfl) ?_
      obtain ⟨h35, e36, hf⟩ := ob hf
      refine ml_putJ dX9_seek_76 fl_RX9_497 (Or.inl rfl) rfl rfl e36 ?_
      refine mw_iconst (v := 1) dX9_seek_79 (by decide) ?_
      refine mw_istore dX9_seek_80 (by decide) rfl ?_
      obtain ⟨h104, e105, hf⟩ := ob hf
      refine MW.sub (subL_s (subL_n (subL_s (subL_n (subL_n (subL_s (subL_n (subL_n subL_nil)))))))) (tl_X9_seek_82 E d _ _ _ _ _ _ e105 ?_)
      refine mw_iconst (v := 1) dX9_seek_170 (by decide) ?_
      obtain ⟨rfl, rfl⟩ := y1 hf
      exact mw_ireturn dX9_seek_171 rfl rfl hk
    · rw [if_pos c8] at hf
      refine mw_iconst (v := 0) dX9_seek_17 (by decide) ?_
      obtain ⟨rfl, rfl⟩ := y1 hf
      exact mw_ireturn dX9_seek_18 rfl rfl hk
def f_X9_settle (a0 : Nat) (v1 : Int32) (v2 : Int32) (v3 : Int32) (h : Hp) : Option (Int32 × Hp) :=
  (rc h (some a0) 8).bind fun g3 =>
  b1 (f_X9_isWorker g3 v1 h) fun x5 h1 =>
  b1 ((if x5 = (0 : Int32) then
      some ((-1), h1)
    else
      b1 (f_X9_isIn v2 (0 : Int32) (727 : Int32) h1) fun x22 h20 =>
      if x22 = (0 : Int32) then
        some ((-1), h20)
      else
        b1 (f_X9_isIn v3 v2 (727 : Int32) h20) fun x26 h24 =>
        if x26 = (0 : Int32) then
          some ((-1), h24)
        else
          (rc h24 (some a0) 8).bind fun g30 =>
          b1 (f_X9_fact g30 (4 : Int32) v1 v2 v3 (0 : Int32) h24) fun x32 h28 =>
          some (x32, h28) : Option (Int32 × Hp))) fun w33 h34 =>
  some (w33, h34)
set_option maxHeartbeats 4000000 in
theorem t_X9_settle (E : En) (d : Nat) {mc ms : Nat} {a0 : Nat} {v1 : Int32} {v2 : Int32} {v3 : Int32} {h h' : Hp} {r : Int32} {K : Option Vv → Hp → Prop} (hf : f_X9_settle a0 v1 v2 v3 h = some (r, h')) (hk : K (some (vi r)) h') : MC E m_X9_settle (d + 2) mc ms [vq (some a0), vi v1, vi v2, vi v3] h K := by
  unfold f_X9_settle at hf
  show MW E m_X9_settle (d + 2) mc ms 0 [some (vq (some a0)), some (vi v1), some (vi v2), some (vi v3)] [] h K
  refine mw_aload_n (x := (some a0)) dX9_settle_0 rfl ?_
  refine mw_iload_n (x := v1) dX9_settle_1 rfl ?_
  obtain ⟨g3, e4, hf⟩ := ob hf
  obtain ⟨x5, h1, e2, hf⟩ := ob1 hf
  refine ml_callV (ci := 8) (mc' := 0) (ms' := 0) [vi v1] dX9_settle_2 mk_X9_isWorker lk_RX9_346 im_X9_isWorker se_X9_isWorker (by decide) e4 rfl (Nat.le_of_ble_eq_true rfl) (Nat.le_of_ble_eq_true rfl) (t_X9_isWorker E _ e2 isR_rfl) ?_
  obtain ⟨w33, h34, r35, hf⟩ := ob1 hf
  have J36 : MW E m_X9_settle (d + 2) mc ms 43 [none, none, none, none] [vi w33] h34 K := by
    obtain ⟨rfl, rfl⟩ := y1 hf
    exact mw_ireturn dX9_settle_43 rfl rfl hk
  refine mw_if_eq (tgt := 42) dX9_settle_5 rfl (fun c6 => ?_) (fun c6 => ?_)
  · rw [if_pos c6] at r35
    refine mw_iconst (v := (-1)) dX9_settle_42 (by decide) ?_
    obtain ⟨rfl, rfl⟩ := y1 r35
    exact MW.sub (subL_n (subL_n (subL_n (subL_n subL_nil)))) J36
  · rw [if_neg c6] at r35
    refine mw_iload_n (x := v2) dX9_settle_8 rfl ?_
    refine mw_iconst (v := 0) dX9_settle_9 (by decide) ?_
    refine mw_sipush (v := 727) dX9_settle_10 (by decide) ?_
    obtain ⟨x22, h20, e21, r35⟩ := ob1 r35
    refine ml_callS (mc' := 0) (ms' := 0) [vi v2, vi (0 : Int32), vi (727 : Int32)] dX9_settle_13 mk_X9_isIn lk_RX9_333 st_X9_isIn rfl (Nat.le_of_ble_eq_true rfl) (Nat.le_of_ble_eq_true rfl) (t_X9_isIn E _ e21 isR_rfl) ?_
    refine mw_if_eq (tgt := 42) dX9_settle_16 rfl (fun c23 => ?_) (fun c23 => ?_)
    · rw [if_pos c23] at r35
      refine mw_iconst (v := (-1)) dX9_settle_42 (by decide) ?_
      obtain ⟨rfl, rfl⟩ := y1 r35
      exact MW.sub (subL_n (subL_n (subL_n (subL_n subL_nil)))) J36
    · rw [if_neg c23] at r35
      refine mw_iload_n (x := v3) dX9_settle_19 rfl ?_
      refine mw_iload_n (x := v2) dX9_settle_20 rfl ?_
      refine mw_sipush (v := 727) dX9_settle_21 (by decide) ?_
      obtain ⟨x26, h24, e25, r35⟩ := ob1 r35
      refine ml_callS (mc' := 0) (ms' := 0) [vi v3, vi v2, vi (727 : Int32)] dX9_settle_24 mk_X9_isIn lk_RX9_333 st_X9_isIn rfl (Nat.le_of_ble_eq_true rfl) (Nat.le_of_ble_eq_true rfl) (t_X9_isIn E _ e25 isR_rfl) ?_
      refine mw_if_eq (tgt := 42) dX9_settle_27 rfl (fun c27 => ?_) (fun c27 => ?_)
      · rw [if_pos c27] at r35
        refine mw_iconst (v := (-1)) dX9_settle_42 (by decide) ?_
        obtain ⟨rfl, rfl⟩ := y1 r35
        exact MW.sub (subL_n (subL_n (subL_n (subL_n subL_nil)))) J36
      · rw [if_neg c27] at r35
        refine mw_aload_n (x := (some a0)) dX9_settle_30 rfl ?_
        refine mw_iconst (v := 4) dX9_settle_31 (by decide) ?_
        refine mw_iload_n (x := v1) dX9_settle_32 rfl ?_
        refine mw_iload_n (x := v2) dX9_settle_33 rfl ?_
        refine mw_iload_n (x := v3) dX9_settle_34 rfl ?_
        refine mw_iconst (v := 0) dX9_settle_35 (by decide) ?_
        obtain ⟨g30, e31, r35⟩ := ob r35
        obtain ⟨x32, h28, e29, r35⟩ := ob1 r35
        refine ml_callV (ci := 8) (mc' := 0) (ms' := 0) [vi (4 : Int32), vi v1, vi v2, vi v3, vi (0 : Int32)] dX9_settle_36 mk_X9_fact lk_RX9_352 im_X9_fact se_X9_fact (by decide) e31 rfl (Nat.le_of_ble_eq_true rfl) (Nat.le_of_ble_eq_true rfl) (t_X9_fact E _ e29 isR_rfl) ?_
        refine mw_goto (tgt := 43) dX9_settle_39 rfl ?_
        obtain ⟨rfl, rfl⟩ := y1 r35
        exact MW.sub (subL_n (subL_n (subL_n (subL_n subL_nil)))) J36
def f_X9_settles (a0 : Nat) (v1 : Int32) (v2 : Int32) (v3 : Int32) (v4 : Int32) (h : Hp) : Option (Int64 × Hp) :=
  (rc h (some a0) 8).bind fun g3 =>
  b1 (f_X9_seek g3 v1 v2 v3 v4 h) fun x5 h1 =>
  b1 ((if x5 = (0 : Int32) then
      some ((-1), h1)
    else
      (getJ h1 (some a0) 8 70).bind fun x9 =>
      some (x9, h1) : Option (Int64 × Hp))) fun w11 h12 =>
  some (w11, h12)
set_option maxHeartbeats 4000000 in
theorem t_X9_settles (E : En) (d : Nat) {mc ms : Nat} {a0 : Nat} {v1 : Int32} {v2 : Int32} {v3 : Int32} {v4 : Int32} {h h' : Hp} {r : Int64} {K : Option Vv → Hp → Prop} (hf : f_X9_settles a0 v1 v2 v3 v4 h = some (r, h')) (hk : K (some (vl r)) h') : MC E m_X9_settles (d + 9) mc ms [vq (some a0), vi v1, vi v2, vi v3, vi v4] h K := by
  unfold f_X9_settles at hf
  show MW E m_X9_settles (d + 9) mc ms 0 [some (vq (some a0)), some (vi v1), some (vi v2), some (vi v3), some (vi v4)] [] h K
  refine mw_aload_n (x := (some a0)) dX9_settles_0 rfl ?_
  refine mw_iload_n (x := v1) dX9_settles_1 rfl ?_
  refine mw_iload_n (x := v2) dX9_settles_2 rfl ?_
  refine mw_iload_n (x := v3) dX9_settles_3 rfl ?_
  refine mw_iload (x := v4) dX9_settles_4 rfl ?_
  obtain ⟨g3, e4, hf⟩ := ob hf
  obtain ⟨x5, h1, e2, hf⟩ := ob1 hf
  refine ml_callV (ci := 8) (mc' := 0) (ms' := 0) [vi v1, vi v2, vi v3, vi v4] dX9_settles_6 mk_X9_seek lk_RX9_503 im_X9_seek se_X9_seek (by decide) e4 rfl (Nat.le_of_ble_eq_true rfl) (Nat.le_of_ble_eq_true rfl) (t_X9_seek E _ e2 isR_rfl) ?_
  obtain ⟨w11, h12, r13, hf⟩ := ob1 hf
  have J14 : MW E m_X9_settles (d + 9) mc ms 22 [none, none, none, none, none] [vl w11] h12 K := by
    obtain ⟨rfl, rfl⟩ := y1 hf
    exact mw_lreturn dX9_settles_22 rfl hk
  refine mw_if_eq (tgt := 19) dX9_settles_9 rfl (fun c6 => ?_) (fun c6 => ?_)
  · rw [if_pos c6] at r13
    refine mw_ldc2 dX9_settles_19 kc_RX9_472 ?_
    obtain ⟨rfl, rfl⟩ := y1 r13
    exact MW.sub (subL_n (subL_n (subL_n (subL_n (subL_n subL_nil))))) J14
  · rw [if_neg c6] at r13
    refine mw_aload_n (x := (some a0)) dX9_settles_12 rfl ?_
    obtain ⟨x9, e10, r13⟩ := ob r13
    refine ml_getJ dX9_settles_13 fl_RX9_497 rfl e10 ?_
    refine mw_goto (tgt := 22) dX9_settles_16 rfl ?_
    obtain ⟨rfl, rfl⟩ := y1 r13
    exact MW.sub (subL_n (subL_n (subL_n (subL_n (subL_n subL_nil))))) J14
def f_X9_span (a0 : Nat) (v1 : Int32) (v2 : Int32) (v3 : Int32) (v4 : Int32) (h : Hp) : Option (Int32 × Hp) :=
  (rc h (some a0) 8).bind fun g3 =>
  b1 (f_X9_isWorker g3 v1 h) fun x5 h1 =>
  if x5 = (0 : Int32) then
    some ((-1), h1)
  else
    b1 (f_X9_isWeek v2 h1) fun x9 h7 =>
    if x9 = (0 : Int32) then
      some ((-1), h7)
    else
      (rc h7 (some a0) 8).bind fun g13 =>
      (f_X9_know g13 v1 v4 h7).bind fun h11 =>
      b1 ((if v3 = (0 : Int32) then
          (getQ h11 (some a0) 8 44).bind fun x24 =>
          (rdI h11 x24 10 v2).bind fun x26 =>
          some (x26, h11)
        else
          (getQ h11 (some a0) 8 45).bind fun x28 =>
          (rdI h11 x28 10 v2).bind fun x30 =>
          some (x30, h11) : Option (Int32 × Hp))) fun w32 h33 =>
      some (w32, h33)
set_option maxHeartbeats 4000000 in
theorem t_X9_span (E : En) (d : Nat) {mc ms : Nat} {a0 : Nat} {v1 : Int32} {v2 : Int32} {v3 : Int32} {v4 : Int32} {h h' : Hp} {r : Int32} {K : Option Vv → Hp → Prop} (hf : f_X9_span a0 v1 v2 v3 v4 h = some (r, h')) (hk : K (some (vi r)) h') : MC E m_X9_span (d + 5) mc ms [vq (some a0), vi v1, vi v2, vi v3, vi v4] h K := by
  unfold f_X9_span at hf
  show MW E m_X9_span (d + 5) mc ms 0 [some (vq (some a0)), some (vi v1), some (vi v2), some (vi v3), some (vi v4)] [] h K
  refine mw_aload_n (x := (some a0)) dX9_span_0 rfl ?_
  refine mw_iload_n (x := v1) dX9_span_1 rfl ?_
  obtain ⟨g3, e4, hf⟩ := ob hf
  obtain ⟨x5, h1, e2, hf⟩ := ob1 hf
  refine ml_callV (ci := 8) (mc' := 0) (ms' := 0) [vi v1] dX9_span_2 mk_X9_isWorker lk_RX9_346 im_X9_isWorker se_X9_isWorker (by decide) e4 rfl (Nat.le_of_ble_eq_true rfl) (Nat.le_of_ble_eq_true rfl) (t_X9_isWorker E _ e2 isR_rfl) ?_
  refine mw_if_eq (tgt := 15) dX9_span_5 rfl (fun c6 => ?_) (fun c6 => ?_)
  · rw [if_pos c6] at hf
    refine mw_iconst (v := (-1)) dX9_span_15 (by decide) ?_
    obtain ⟨rfl, rfl⟩ := y1 hf
    exact mw_ireturn dX9_span_16 rfl rfl hk
  · rw [if_neg c6] at hf
    refine mw_iload_n (x := v2) dX9_span_8 rfl ?_
    obtain ⟨x9, h7, e8, hf⟩ := ob1 hf
    refine ml_callS (mc' := 0) (ms' := 0) [vi v2] dX9_span_9 mk_X9_isWeek lk_RX9_349 st_X9_isWeek rfl (Nat.le_of_ble_eq_true rfl) (Nat.le_of_ble_eq_true rfl) (t_X9_isWeek E _ e8 isR_rfl) ?_
    refine mw_if_ne (tgt := 17) dX9_span_12 rfl (fun c10 => ?_) (fun c10 => ?_)
    · rw [if_neg c10] at hf
      refine mw_aload_n (x := (some a0)) dX9_span_17 rfl ?_
      refine mw_iload_n (x := v1) dX9_span_18 rfl ?_
      refine mw_iload (x := v4) dX9_span_19 rfl ?_
      obtain ⟨g13, e14, hf⟩ := ob hf
      obtain ⟨h11, e12, hf⟩ := ob hf
      refine ml_callV (ci := 8) (mc' := 0) (ms' := 0) [vi v1, vi v4] dX9_span_21 mk_X9_know lk_RX9_403 im_X9_know se_X9_know (by decide) e14 rfl (Nat.le_of_ble_eq_true rfl) (Nat.le_of_ble_eq_true rfl) (t_X9_know E _ e12 isR_rfl) ?_
      refine mw_iload_n (x := v3) dX9_span_24 rfl ?_
      obtain ⟨w32, h33, r34, hf⟩ := ob1 hf
      have J35 : MW E m_X9_span (d + 5) mc ms 43 [none, none, none, none, none] [vi w32] h33 K := by
        obtain ⟨rfl, rfl⟩ := y1 hf
        exact mw_ireturn dX9_span_43 rfl rfl hk
      refine mw_if_eq (tgt := 37) dX9_span_25 rfl (fun c15 => ?_) (fun c15 => ?_)
      · rw [if_pos c15] at r34
        refine mw_aload_n (x := (some a0)) dX9_span_37 rfl ?_
        obtain ⟨x24, e25, r34⟩ := ob r34
        refine ml_getQ dX9_span_38 fl_RX9_150 rfl e25 ?_
        refine mw_iload_n (x := v2) dX9_span_41 rfl ?_
        obtain ⟨x26, e27, r34⟩ := ob r34
        refine ml_iald dX9_span_42 e27 ?_
        obtain ⟨rfl, rfl⟩ := y1 r34
        exact MW.sub (subL_n (subL_n (subL_n (subL_n (subL_n subL_nil))))) J35
      · rw [if_neg c15] at r34
        refine mw_aload_n (x := (some a0)) dX9_span_28 rfl ?_
        obtain ⟨x28, e29, r34⟩ := ob r34
        refine ml_getQ dX9_span_29 fl_RX9_153 rfl e29 ?_
        refine mw_iload_n (x := v2) dX9_span_32 rfl ?_
        obtain ⟨x30, e31, r34⟩ := ob r34
        refine ml_iald dX9_span_33 e31 ?_
        refine mw_goto (tgt := 43) dX9_span_34 rfl ?_
        obtain ⟨rfl, rfl⟩ := y1 r34
        exact MW.sub (subL_n (subL_n (subL_n (subL_n (subL_n subL_nil))))) J35
    · rw [if_pos c10] at hf
      refine mw_iconst (v := (-1)) dX9_span_15 (by decide) ?_
      obtain ⟨rfl, rfl⟩ := y1 hf
      exact mw_ireturn dX9_span_16 rfl rfl hk
def f_X9_tests (a0 : Nat) (v1 : Int32) (v2 : Int32) (v3 : Int32) (v4 : Int32) (h : Hp) : Option (Int32 × Hp) :=
  (rc h (some a0) 8).bind fun g3 =>
  b1 (f_X9_seek g3 v1 v2 v3 v4 h) fun x5 h1 =>
  b1 ((if x5 = (0 : Int32) then
      some ((-1), h1)
    else
      (getI h1 (some a0) 8 69).bind fun x9 =>
      some (x9, h1) : Option (Int32 × Hp))) fun w11 h12 =>
  some (w11, h12)
set_option maxHeartbeats 4000000 in
theorem t_X9_tests (E : En) (d : Nat) {mc ms : Nat} {a0 : Nat} {v1 : Int32} {v2 : Int32} {v3 : Int32} {v4 : Int32} {h h' : Hp} {r : Int32} {K : Option Vv → Hp → Prop} (hf : f_X9_tests a0 v1 v2 v3 v4 h = some (r, h')) (hk : K (some (vi r)) h') : MC E m_X9_tests (d + 9) mc ms [vq (some a0), vi v1, vi v2, vi v3, vi v4] h K := by
  unfold f_X9_tests at hf
  show MW E m_X9_tests (d + 9) mc ms 0 [some (vq (some a0)), some (vi v1), some (vi v2), some (vi v3), some (vi v4)] [] h K
  refine mw_aload_n (x := (some a0)) dX9_tests_0 rfl ?_
  refine mw_iload_n (x := v1) dX9_tests_1 rfl ?_
  refine mw_iload_n (x := v2) dX9_tests_2 rfl ?_
  refine mw_iload_n (x := v3) dX9_tests_3 rfl ?_
  refine mw_iload (x := v4) dX9_tests_4 rfl ?_
  obtain ⟨g3, e4, hf⟩ := ob hf
  obtain ⟨x5, h1, e2, hf⟩ := ob1 hf
  refine ml_callV (ci := 8) (mc' := 0) (ms' := 0) [vi v1, vi v2, vi v3, vi v4] dX9_tests_6 mk_X9_seek lk_RX9_503 im_X9_seek se_X9_seek (by decide) e4 rfl (Nat.le_of_ble_eq_true rfl) (Nat.le_of_ble_eq_true rfl) (t_X9_seek E _ e2 isR_rfl) ?_
  obtain ⟨w11, h12, r13, hf⟩ := ob1 hf
  have J14 : MW E m_X9_tests (d + 9) mc ms 20 [none, none, none, none, none] [vi w11] h12 K := by
    obtain ⟨rfl, rfl⟩ := y1 hf
    exact mw_ireturn dX9_tests_20 rfl rfl hk
  refine mw_if_eq (tgt := 19) dX9_tests_9 rfl (fun c6 => ?_) (fun c6 => ?_)
  · rw [if_pos c6] at r13
    refine mw_iconst (v := (-1)) dX9_tests_19 (by decide) ?_
    obtain ⟨rfl, rfl⟩ := y1 r13
    exact MW.sub (subL_n (subL_n (subL_n (subL_n (subL_n subL_nil))))) J14
  · rw [if_neg c6] at r13
    refine mw_aload_n (x := (some a0)) dX9_tests_12 rfl ?_
    obtain ⟨x9, e10, r13⟩ := ob r13
    refine ml_getI dX9_tests_13 fl_RX9_490 rfl e10 ?_
    refine mw_goto (tgt := 20) dX9_tests_16 rfl ?_
    obtain ⟨rfl, rfl⟩ := y1 r13
    exact MW.sub (subL_n (subL_n (subL_n (subL_n (subL_n subL_nil))))) J14
def f_X9_untell (a0 : Nat) (v1 : Int32) (h : Hp) : Option (Int32 × Hp) :=
  if v1 < (0 : Int32) then
    some (0, h)
  else
    (getI h (some a0) 8 41).bind fun x2 =>
    if x2 ≤ v1 then
      some (0, h)
    else
      (getQ h (some a0) 8 38).bind fun x5 =>
      (rdI h x5 10 v1).bind fun x7 =>
      if x7 < (0 : Int32) then
        (getQ h (some a0) 8 38).bind fun x10 =>
        (getI h (some a0) 8 42).bind fun x12 =>
        (wrI h x10 v1 x12).bind fun h14 =>
        some (1, h14)
      else
        some (0, h)
set_option maxHeartbeats 4000000 in
theorem t_X9_untell (E : En) (d : Nat) {mc ms : Nat} {a0 : Nat} {v1 : Int32} {h h' : Hp} {r : Int32} {K : Option Vv → Hp → Prop} (hf : f_X9_untell a0 v1 h = some (r, h')) (hk : K (some (vi r)) h') : MC E m_X9_untell (d + 0) mc ms [vq (some a0), vi v1] h K := by
  unfold f_X9_untell at hf
  show MW E m_X9_untell (d + 0) mc ms 0 [some (vq (some a0)), some (vi v1)] [] h K
  refine mw_iload_n (x := v1) dX9_untell_0 rfl ?_
  refine mw_if_lt (tgt := 21) dX9_untell_1 rfl (fun c1 => ?_) (fun c1 => ?_)
  · rw [if_pos c1] at hf
    refine mw_iconst (v := 0) dX9_untell_21 (by decide) ?_
    obtain ⟨rfl, rfl⟩ := y1 hf
    exact mw_ireturn dX9_untell_22 rfl rfl hk
  · rw [if_neg c1] at hf
    refine mw_iload_n (x := v1) dX9_untell_4 rfl ?_
    refine mw_aload_n (x := (some a0)) dX9_untell_5 rfl ?_
    obtain ⟨x2, e3, hf⟩ := ob hf
    refine ml_getI dX9_untell_6 fl_RX9_340 rfl e3 ?_
    refine mw_icmp_ge (tgt := 21) dX9_untell_9 rfl (fun c4 => ?_) (fun c4 => ?_)
    · rw [if_pos c4] at hf
      refine mw_iconst (v := 0) dX9_untell_21 (by decide) ?_
      obtain ⟨rfl, rfl⟩ := y1 hf
      exact mw_ireturn dX9_untell_22 rfl rfl hk
    · rw [if_neg c4] at hf
      refine mw_aload_n (x := (some a0)) dX9_untell_12 rfl ?_
      obtain ⟨x5, e6, hf⟩ := ob hf
      refine ml_getQ dX9_untell_13 fl_RX9_141 rfl e6 ?_
      refine mw_iload_n (x := v1) dX9_untell_16 rfl ?_
      obtain ⟨x7, e8, hf⟩ := ob hf
      refine ml_iald dX9_untell_17 e8 ?_
      refine mw_if_lt (tgt := 23) dX9_untell_18 rfl (fun c9 => ?_) (fun c9 => ?_)
      · rw [if_pos c9] at hf
        refine mw_aload_n (x := (some a0)) dX9_untell_23 rfl ?_
        obtain ⟨x10, e11, hf⟩ := ob hf
        refine ml_getQ dX9_untell_24 fl_RX9_141 rfl e11 ?_
        refine mw_iload_n (x := v1) dX9_untell_27 rfl ?_
        refine mw_aload_n (x := (some a0)) dX9_untell_28 rfl ?_
        obtain ⟨x12, e13, hf⟩ := ob hf
        refine ml_getI dX9_untell_29 fl_RX9_343 rfl e13 ?_
        obtain ⟨h14, e15, hf⟩ := ob hf
        refine ml_iast dX9_untell_32 e15 ?_
        refine mw_iconst (v := 1) dX9_untell_33 (by decide) ?_
        obtain ⟨rfl, rfl⟩ := y1 hf
        exact mw_ireturn dX9_untell_34 rfl rfl hk
      · rw [if_neg c9] at hf
        refine mw_iconst (v := 0) dX9_untell_21 (by decide) ?_
        obtain ⟨rfl, rfl⟩ := y1 hf
        exact mw_ireturn dX9_untell_22 rfl rfl hk
def f_X9_weeks (a0 : Nat) (v1 : Int32) (v2 : Int32) (v3 : Int32) (v4 : Int32) (h : Hp) : Option (Int32 × Hp) :=
  (rc h (some a0) 8).bind fun g3 =>
  b1 (f_X9_average g3 v1 v2 v3 v4 h) fun x5 h1 =>
  b1 ((if x5 = ((-1) : Int32) then
      some ((-1), h1)
    else
      (getI h1 (some a0) 8 57).bind fun x9 =>
      some (x9, h1) : Option (Int32 × Hp))) fun w11 h12 =>
  some (w11, h12)
set_option maxHeartbeats 4000000 in
theorem t_X9_weeks (E : En) (d : Nat) {mc ms : Nat} {a0 : Nat} {v1 : Int32} {v2 : Int32} {v3 : Int32} {v4 : Int32} {h h' : Hp} {r : Int32} {K : Option Vv → Hp → Prop} (hf : f_X9_weeks a0 v1 v2 v3 v4 h = some (r, h')) (hk : K (some (vi r)) h') : MC E m_X9_weeks (d + 7) mc ms [vq (some a0), vi v1, vi v2, vi v3, vi v4] h K := by
  unfold f_X9_weeks at hf
  show MW E m_X9_weeks (d + 7) mc ms 0 [some (vq (some a0)), some (vi v1), some (vi v2), some (vi v3), some (vi v4)] [] h K
  refine mw_aload_n (x := (some a0)) dX9_weeks_0 rfl ?_
  refine mw_iload_n (x := v1) dX9_weeks_1 rfl ?_
  refine mw_iload_n (x := v2) dX9_weeks_2 rfl ?_
  refine mw_iload_n (x := v3) dX9_weeks_3 rfl ?_
  refine mw_iload (x := v4) dX9_weeks_4 rfl ?_
  obtain ⟨g3, e4, hf⟩ := ob hf
  obtain ⟨x5, h1, e2, hf⟩ := ob1 hf
  refine ml_callV (ci := 8) (mc' := 0) (ms' := 0) [vi v1, vi v2, vi v3, vi v4] dX9_weeks_6 mk_X9_average lk_RX9_448 im_X9_average se_X9_average (by decide) e4 rfl (Nat.le_of_ble_eq_true rfl) (Nat.le_of_ble_eq_true rfl) (t_X9_average E _ e2 isR_rfl) ?_
  refine mw_iconst (v := (-1)) dX9_weeks_9 (by decide) ?_
  obtain ⟨w11, h12, r13, hf⟩ := ob1 hf
  have J14 : MW E m_X9_weeks (d + 7) mc ms 21 [none, none, none, none, none] [vi w11] h12 K := by
    obtain ⟨rfl, rfl⟩ := y1 hf
    exact mw_ireturn dX9_weeks_21 rfl rfl hk
  refine mw_icmp_ne (tgt := 17) dX9_weeks_10 rfl (fun c6 => ?_) (fun c6 => ?_)
  · rw [if_neg c6] at r13
    refine mw_aload_n (x := (some a0)) dX9_weeks_17 rfl ?_
    obtain ⟨x9, e10, r13⟩ := ob r13
    refine ml_getI dX9_weeks_18 fl_RX9_429 rfl e10 ?_
    obtain ⟨rfl, rfl⟩ := y1 r13
    exact MW.sub (subL_n (subL_n (subL_n (subL_n (subL_n subL_nil))))) J14
  · rw [if_pos c6] at r13
    refine mw_iconst (v := (-1)) dX9_weeks_13 (by decide) ?_
    refine mw_goto (tgt := 21) dX9_weeks_14 rfl ?_
    obtain ⟨rfl, rfl⟩ := y1 r13
    exact MW.sub (subL_n (subL_n (subL_n (subL_n (subL_n subL_nil))))) J14
def f_X9_worker (a0 : Nat) (v1 : Int32) (v2 : Int32) (h : Hp) : Option (Int32 × Hp) :=
  b1 (f_X9_isIn v1 (0 : Int32) (9 : Int32) h) fun x3 h1 =>
  if x3 = (0 : Int32) then
    some ((-1), h1)
  else
    (getI h1 (some a0) 8 40).bind fun x5 =>
    if x5 = (10 : Int32) then
      some ((-1), h1)
    else
      (getQ h1 (some a0) 8 30).bind fun x8 =>
      (getI h1 (some a0) 8 40).bind fun x10 =>
      (wrI h1 x8 x10 v1).bind fun h12 =>
      (getQ h12 (some a0) 8 39).bind fun x14 =>
      (getI h12 (some a0) 8 40).bind fun x16 =>
      (wrZ h12 x14 x16 v2).bind fun h18 =>
      (getI h18 (some a0) 8 40).bind fun x20 =>
      (putI h18 (some a0) 8 40 (x20 + (1 : Int32))).bind fun h22 =>
      (getI h22 (some a0) 8 40).bind fun x24 =>
      some ((x24 - (1 : Int32)), h22)
set_option maxHeartbeats 4000000 in
theorem t_X9_worker (E : En) (d : Nat) {mc ms : Nat} {a0 : Nat} {v1 : Int32} {v2 : Int32} {h h' : Hp} {r : Int32} {K : Option Vv → Hp → Prop} (hf : f_X9_worker a0 v1 v2 h = some (r, h')) (hk : K (some (vi r)) h') : MC E m_X9_worker (d + 1) mc ms [vq (some a0), vi v1, vi v2] h K := by
  unfold f_X9_worker at hf
  show MW E m_X9_worker (d + 1) mc ms 0 [some (vq (some a0)), some (vi v1), some (vi v2)] [] h K
  refine mw_iload_n (x := v1) dX9_worker_0 rfl ?_
  refine mw_iconst (v := 0) dX9_worker_1 (by decide) ?_
  refine mw_bipush (v := 9) dX9_worker_2 (by decide) ?_
  obtain ⟨x3, h1, e2, hf⟩ := ob1 hf
  refine ml_callS (mc' := 0) (ms' := 0) [vi v1, vi (0 : Int32), vi (9 : Int32)] dX9_worker_4 mk_X9_isIn lk_RX9_333 st_X9_isIn rfl (Nat.le_of_ble_eq_true rfl) (Nat.le_of_ble_eq_true rfl) (t_X9_isIn E _ e2 isR_rfl) ?_
  refine mw_if_eq (tgt := 19) dX9_worker_7 rfl (fun c4 => ?_) (fun c4 => ?_)
  · rw [if_pos c4] at hf
    refine mw_iconst (v := (-1)) dX9_worker_19 (by decide) ?_
    obtain ⟨rfl, rfl⟩ := y1 hf
    exact mw_ireturn dX9_worker_20 rfl rfl hk
  · rw [if_neg c4] at hf
    refine mw_aload_n (x := (some a0)) dX9_worker_10 rfl ?_
    obtain ⟨x5, e6, hf⟩ := ob hf
    refine ml_getI dX9_worker_11 fl_RX9_337 rfl e6 ?_
    refine mw_bipush (v := 10) dX9_worker_14 (by decide) ?_
    refine mw_icmp_ne (tgt := 21) dX9_worker_16 rfl (fun c7 => ?_) (fun c7 => ?_)
    · rw [if_neg c7] at hf
      refine mw_aload_n (x := (some a0)) dX9_worker_21 rfl ?_
      obtain ⟨x8, e9, hf⟩ := ob hf
      refine ml_getQ dX9_worker_22 fl_RX9_117 rfl e9 ?_
      refine mw_aload_n (x := (some a0)) dX9_worker_25 rfl ?_
      obtain ⟨x10, e11, hf⟩ := ob hf
      refine ml_getI dX9_worker_26 fl_RX9_337 rfl e11 ?_
      refine mw_iload_n (x := v1) dX9_worker_29 rfl ?_
      obtain ⟨h12, e13, hf⟩ := ob hf
      refine ml_iast dX9_worker_30 e13 ?_
      refine mw_aload_n (x := (some a0)) dX9_worker_31 rfl ?_
      obtain ⟨x14, e15, hf⟩ := ob hf
      refine ml_getQ dX9_worker_32 fl_RX9_144 rfl e15 ?_
      refine mw_aload_n (x := (some a0)) dX9_worker_35 rfl ?_
      obtain ⟨x16, e17, hf⟩ := ob hf
      refine ml_getI dX9_worker_36 fl_RX9_337 rfl e17 ?_
      refine mw_iload_n (x := v2) dX9_worker_39 rfl ?_
      obtain ⟨h18, e19, hf⟩ := ob hf
      refine ml_zast dX9_worker_40 e19 ?_
      refine mw_aload_n (x := (some a0)) dX9_worker_41 rfl ?_
      refine mw_dupq dX9_worker_42 ?_
      obtain ⟨x20, e21, hf⟩ := ob hf
      refine ml_getI dX9_worker_43 fl_RX9_337 rfl e21 ?_
      refine mw_iconst (v := 1) dX9_worker_46 (by decide) ?_
      refine mw_iadd dX9_worker_47 ?_
      obtain ⟨h22, e23, hf⟩ := ob hf
      refine ml_putI dX9_worker_48 fl_RX9_337 (Or.inl rfl) rfl rfl e23 ?_
      refine mw_aload_n (x := (some a0)) dX9_worker_51 rfl ?_
      obtain ⟨x24, e25, hf⟩ := ob hf
      refine ml_getI dX9_worker_52 fl_RX9_337 rfl e25 ?_
      refine mw_iconst (v := 1) dX9_worker_55 (by decide) ?_
      refine mw_isub dX9_worker_56 ?_
      obtain ⟨rfl, rfl⟩ := y1 hf
      exact mw_ireturn dX9_worker_57 rfl rfl hk
    · rw [if_pos c7] at hf
      refine mw_iconst (v := (-1)) dX9_worker_19 (by decide) ?_
      obtain ⟨rfl, rfl⟩ := y1 hf
      exact mw_ireturn dX9_worker_20 rfl rfl hk
