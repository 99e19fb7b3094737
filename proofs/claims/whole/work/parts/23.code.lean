theorem dX8_openChain_0 : decode cX8_openChain 0 = .ok (.aload_n 0, 1) := by decide +kernel
theorem dX8_openChain_1 : decode cX8_openChain 1 = .ok (.iconst 5, 1) := by decide +kernel
theorem dX8_openChain_2 : decode cX8_openChain 2 = .ok (.iload_n 2, 1) := by decide +kernel
theorem dX8_openChain_3 : decode cX8_openChain 3 = .ok (.invokevirtual 170, 3) := by decide +kernel
theorem dX8_openChain_6 : decode cX8_openChain 6 = .ok (.astore 5, 2) := by decide +kernel
theorem dX8_openChain_8 : decode cX8_openChain 8 = .ok (.aload 5, 2) := by decide +kernel
theorem dX8_openChain_10 : decode cX8_openChain 10 = .ok (.ifnull 19, 3) := by decide +kernel
theorem dX8_openChain_13 : decode cX8_openChain 13 = .ok (.aload_n 0, 1) := by decide +kernel
theorem dX8_openChain_14 : decode cX8_openChain 14 = .ok (.iload_n 1, 1) := by decide +kernel
theorem dX8_openChain_15 : decode cX8_openChain 15 = .ok (.aload 5, 2) := by decide +kernel
theorem dX8_openChain_17 : decode cX8_openChain 17 = .ok (.getfield 120, 3) := by decide +kernel
theorem dX8_openChain_20 : decode cX8_openChain 20 = .ok (.iload_n 3, 1) := by decide +kernel
theorem dX8_openChain_21 : decode cX8_openChain 21 = .ok (.iload 4, 2) := by decide +kernel
theorem dX8_openChain_23 : decode cX8_openChain 23 = .ok (.invokevirtual 159, 3) := by decide +kernel
theorem dX8_openChain_26 : decode cX8_openChain 26 = .ok (.ifCond .ne 5, 3) := by decide +kernel
theorem dX8_openChain_29 : decode cX8_openChain 29 = .ok (.iconst 0, 1) := by decide +kernel
theorem dX8_openChain_30 : decode cX8_openChain 30 = .ok (.ireturn, 1) := by decide +kernel
theorem dX8_openChain_31 : decode cX8_openChain 31 = .ok (.aload_n 0, 1) := by decide +kernel
theorem dX8_openChain_32 : decode cX8_openChain 32 = .ok (.getfield 44, 3) := by decide +kernel
theorem dX8_openChain_35 : decode cX8_openChain 35 = .ok (.iload 4, 2) := by decide +kernel
theorem dX8_openChain_37 : decode cX8_openChain 37 = .ok (.invokevirtual 206, 3) := by decide +kernel
theorem dX8_openChain_40 : decode cX8_openChain 40 = .ok (.aload_n 0, 1) := by decide +kernel
theorem dX8_openChain_41 : decode cX8_openChain 41 = .ok (.getfield 44, 3) := by decide +kernel
theorem dX8_openChain_44 : decode cX8_openChain 44 = .ok (.aload 5, 2) := by decide +kernel
theorem dX8_openChain_46 : decode cX8_openChain 46 = .ok (.getfield 174, 3) := by decide +kernel
theorem dX8_openChain_49 : decode cX8_openChain 49 = .ok (.invokevirtual 242, 3) := by decide +kernel
theorem dX8_openChain_52 : decode cX8_openChain 52 = .ok (.iconst 1, 1) := by decide +kernel
theorem dX8_openChain_53 : decode cX8_openChain 53 = .ok (.ireturn, 1) := by decide +kernel
theorem dX8_chain_0 : decode cX8_chain 0 = .ok (.aload_n 0, 1) := by decide +kernel
theorem dX8_chain_1 : decode cX8_chain 1 = .ok (.iload_n 1, 1) := by decide +kernel
theorem dX8_chain_2 : decode cX8_chain 2 = .ok (.iload_n 2, 1) := by decide +kernel
theorem dX8_chain_3 : decode cX8_chain 3 = .ok (.iload_n 3, 1) := by decide +kernel
theorem dX8_chain_4 : decode cX8_chain 4 = .ok (.iload 4, 2) := by decide +kernel
theorem dX8_chain_6 : decode cX8_chain 6 = .ok (.invokevirtual 187, 3) := by decide +kernel
theorem dX8_chain_9 : decode cX8_chain 9 = .ok (.ifCond .eq 13, 3) := by decide +kernel
theorem dX8_chain_12 : decode cX8_chain 12 = .ok (.aload_n 0, 1) := by decide +kernel
theorem dX8_chain_13 : decode cX8_chain 13 = .ok (.getfield 44, 3) := by decide +kernel
theorem dX8_chain_16 : decode cX8_chain 16 = .ok (.invokevirtual 190, 3) := by decide +kernel
theorem dX8_chain_19 : decode cX8_chain 19 = .ok (.goto 4, 3) := by decide +kernel
theorem dX8_chain_22 : decode cX8_chain 22 = .ok (.iconst (-1), 1) := by decide +kernel
theorem dX8_chain_23 : decode cX8_chain 23 = .ok (.ireturn, 1) := by decide +kernel
theorem dX8_claim_0 : decode cX8_claim 0 = .ok (.iload_n 2, 1) := by decide +kernel
theorem dX8_claim_1 : decode cX8_claim 1 = .ok (.iconst 0, 1) := by decide +kernel
theorem dX8_claim_2 : decode cX8_claim 2 = .ok (.sipush 999, 3) := by decide +kernel
theorem dX8_claim_5 : decode cX8_claim 5 = .ok (.invokestatic 81, 3) := by decide +kernel
theorem dX8_claim_8 : decode cX8_claim 8 = .ok (.ifCond .eq 15, 3) := by decide +kernel
theorem dX8_claim_11 : decode cX8_claim 11 = .ok (.aload_n 0, 1) := by decide +kernel
theorem dX8_claim_12 : decode cX8_claim 12 = .ok (.iconst 5, 1) := by decide +kernel
theorem dX8_claim_13 : decode cX8_claim 13 = .ok (.iload_n 1, 1) := by decide +kernel
theorem dX8_claim_14 : decode cX8_claim 14 = .ok (.iload_n 2, 1) := by decide +kernel
theorem dX8_claim_15 : decode cX8_claim 15 = .ok (.iconst 0, 1) := by decide +kernel
theorem dX8_claim_16 : decode cX8_claim 16 = .ok (.iconst 0, 1) := by decide +kernel
theorem dX8_claim_17 : decode cX8_claim 17 = .ok (.invokevirtual 95, 3) := by decide +kernel
theorem dX8_claim_20 : decode cX8_claim 20 = .ok (.goto 4, 3) := by decide +kernel
theorem dX8_claim_23 : decode cX8_claim 23 = .ok (.iconst (-1), 1) := by decide +kernel
theorem dX8_claim_24 : decode cX8_claim 24 = .ok (.ireturn, 1) := by decide +kernel
theorem dX8_counted_0 : decode cX8_counted 0 = .ok (.iload_n 3, 1) := by decide +kernel
theorem dX8_counted_1 : decode cX8_counted 1 = .ok (.invokestatic 91, 3) := by decide +kernel
theorem dX8_counted_4 : decode cX8_counted 4 = .ok (.ifCond .eq 16, 3) := by decide +kernel
theorem dX8_counted_7 : decode cX8_counted 7 = .ok (.aload_n 0, 1) := by decide +kernel
theorem dX8_counted_8 : decode cX8_counted 8 = .ok (.iload_n 1, 1) := by decide +kernel
theorem dX8_counted_9 : decode cX8_counted 9 = .ok (.iload_n 2, 1) := by decide +kernel
theorem dX8_counted_10 : decode cX8_counted 10 = .ok (.iload 4, 2) := by decide +kernel
theorem dX8_counted_12 : decode cX8_counted 12 = .ok (.iload 5, 2) := by decide +kernel
theorem dX8_counted_14 : decode cX8_counted 14 = .ok (.invokevirtual 159, 3) := by decide +kernel
theorem dX8_counted_17 : decode cX8_counted 17 = .ok (.ifCond .ne 5, 3) := by decide +kernel
theorem dX8_counted_20 : decode cX8_counted 20 = .ok (.iconst (-1), 1) := by decide +kernel
theorem dX8_counted_21 : decode cX8_counted 21 = .ok (.ireturn, 1) := by decide +kernel
theorem dX8_counted_22 : decode cX8_counted 22 = .ok (.aload_n 0, 1) := by decide +kernel
theorem dX8_counted_23 : decode cX8_counted 23 = .ok (.getfield 44, 3) := by decide +kernel
theorem dX8_counted_26 : decode cX8_counted 26 = .ok (.iload_n 3, 1) := by decide +kernel
theorem dX8_counted_27 : decode cX8_counted 27 = .ok (.invokevirtual 163, 3) := by decide +kernel
theorem dX8_counted_30 : decode cX8_counted 30 = .ok (.ireturn, 1) := by decide +kernel
theorem dX8_due_0 : decode cX8_due 0 = .ok (.aload_n 0, 1) := by decide +kernel
theorem dX8_due_1 : decode cX8_due 1 = .ok (.iconst 5, 1) := by decide +kernel
theorem dX8_due_2 : decode cX8_due 2 = .ok (.iload_n 2, 1) := by decide +kernel
theorem dX8_due_3 : decode cX8_due 3 = .ok (.invokevirtual 170, 3) := by decide +kernel
theorem dX8_due_6 : decode cX8_due 6 = .ok (.astore 5, 2) := by decide +kernel
theorem dX8_due_8 : decode cX8_due 8 = .ok (.aload 5, 2) := by decide +kernel
theorem dX8_due_10 : decode cX8_due 10 = .ok (.ifnull 15, 3) := by decide +kernel
theorem dX8_due_13 : decode cX8_due 13 = .ok (.aload_n 0, 1) := by decide +kernel
theorem dX8_due_14 : decode cX8_due 14 = .ok (.iload_n 1, 1) := by decide +kernel
theorem dX8_due_15 : decode cX8_due 15 = .ok (.iload_n 2, 1) := by decide +kernel
theorem dX8_due_16 : decode cX8_due 16 = .ok (.iload_n 3, 1) := by decide +kernel
theorem dX8_due_17 : decode cX8_due 17 = .ok (.iload 4, 2) := by decide +kernel
theorem dX8_due_19 : decode cX8_due 19 = .ok (.invokevirtual 187, 3) := by decide +kernel
theorem dX8_due_22 : decode cX8_due 22 = .ok (.ifCond .ne 7, 3) := by decide +kernel
theorem dX8_due_25 : decode cX8_due 25 = .ok (.ldc2_w 200, 3) := by decide +kernel
theorem dX8_due_28 : decode cX8_due 28 = .ok (.lreturn, 1) := by decide +kernel
theorem dX8_due_29 : decode cX8_due 29 = .ok (.aload_n 0, 1) := by decide +kernel
theorem dX8_due_30 : decode cX8_due 30 = .ok (.getfield 44, 3) := by decide +kernel
theorem dX8_due_33 : decode cX8_due 33 = .ok (.aload 5, 2) := by decide +kernel
theorem dX8_due_35 : decode cX8_due 35 = .ok (.getfield 174, 3) := by decide +kernel
theorem dX8_due_38 : decode cX8_due 38 = .ok (.invokevirtual 202, 3) := by decide +kernel
theorem dX8_due_41 : decode cX8_due 41 = .ok (.lreturn, 1) := by decide +kernel
theorem dX8_empty_0 : decode cX8_empty 0 = .ok (.iload_n 3, 1) := by decide +kernel
theorem dX8_empty_1 : decode cX8_empty 1 = .ok (.invokestatic 91, 3) := by decide +kernel
theorem dX8_empty_4 : decode cX8_empty 4 = .ok (.ifCond .eq 16, 3) := by decide +kernel
theorem dX8_empty_7 : decode cX8_empty 7 = .ok (.aload_n 0, 1) := by decide +kernel
theorem dX8_empty_8 : decode cX8_empty 8 = .ok (.iload_n 1, 1) := by decide +kernel
theorem dX8_empty_9 : decode cX8_empty 9 = .ok (.iload_n 2, 1) := by decide +kernel
theorem dX8_empty_10 : decode cX8_empty 10 = .ok (.iload 4, 2) := by decide +kernel
theorem dX8_empty_12 : decode cX8_empty 12 = .ok (.iload 5, 2) := by decide +kernel
theorem dX8_empty_14 : decode cX8_empty 14 = .ok (.invokevirtual 159, 3) := by decide +kernel
theorem dX8_empty_17 : decode cX8_empty 17 = .ok (.ifCond .ne 5, 3) := by decide +kernel
theorem dX8_empty_20 : decode cX8_empty 20 = .ok (.iconst (-1), 1) := by decide +kernel
theorem dX8_empty_21 : decode cX8_empty 21 = .ok (.ireturn, 1) := by decide +kernel
theorem dX8_empty_22 : decode cX8_empty 22 = .ok (.aload_n 0, 1) := by decide +kernel
theorem dX8_empty_23 : decode cX8_empty 23 = .ok (.getfield 44, 3) := by decide +kernel
theorem dX8_empty_26 : decode cX8_empty 26 = .ok (.iload_n 3, 1) := by decide +kernel
theorem dX8_empty_27 : decode cX8_empty 27 = .ok (.invokevirtual 167, 3) := by decide +kernel
theorem dX8_empty_30 : decode cX8_empty 30 = .ok (.ireturn, 1) := by decide +kernel
theorem dX8_end_0 : decode cX8_end 0 = .ok (.iload_n 1, 1) := by decide +kernel
theorem dX8_end_1 : decode cX8_end 1 = .ok (.ifCond .lt 14, 3) := by decide +kernel
theorem dX8_end_4 : decode cX8_end 4 = .ok (.iload_n 1, 1) := by decide +kernel
theorem dX8_end_5 : decode cX8_end 5 = .ok (.aload_n 0, 1) := by decide +kernel
theorem dX8_end_6 : decode cX8_end 6 = .ok (.getfield 10, 3) := by decide +kernel
theorem dX8_end_9 : decode cX8_end 9 = .ok (.getfield 60, 3) := by decide +kernel
theorem dX8_end_12 : decode cX8_end 12 = .ok (.if_icmp .le 5, 3) := by decide +kernel
theorem dX8_end_15 : decode cX8_end 15 = .ok (.iconst (-1), 1) := by decide +kernel
theorem dX8_end_16 : decode cX8_end 16 = .ok (.ireturn, 1) := by decide +kernel
theorem dX8_end_17 : decode cX8_end 17 = .ok (.aload_n 0, 1) := by decide +kernel
theorem dX8_end_18 : decode cX8_end 18 = .ok (.getfield 10, 3) := by decide +kernel
theorem dX8_end_21 : decode cX8_end 21 = .ok (.iload_n 1, 1) := by decide +kernel
theorem dX8_end_22 : decode cX8_end 22 = .ok (.putfield 60, 3) := by decide +kernel
theorem dX8_end_25 : decode cX8_end 25 = .ok (.iload_n 1, 1) := by decide +kernel
theorem dX8_end_26 : decode cX8_end 26 = .ok (.ireturn, 1) := by decide +kernel
theorem dX8_fault_0 : decode cX8_fault 0 = .ok (.iload_n 1, 1) := by decide +kernel
theorem dX8_fault_1 : decode cX8_fault 1 = .ok (.ifCond .ne 11, 3) := by decide +kernel
theorem dX8_fault_4 : decode cX8_fault 4 = .ok (.aload_n 0, 1) := by decide +kernel
theorem dX8_fault_5 : decode cX8_fault 5 = .ok (.getfield 10, 3) := by decide +kernel
theorem dX8_fault_8 : decode cX8_fault 8 = .ok (.getfield 72, 3) := by decide +kernel
theorem dX8_fault_11 : decode cX8_fault 11 = .ok (.ireturn, 1) := by decide +kernel
theorem dX8_fault_12 : decode cX8_fault 12 = .ok (.iload_n 1, 1) := by decide +kernel
theorem dX8_fault_13 : decode cX8_fault 13 = .ok (.iconst 1, 1) := by decide +kernel
theorem dX8_fault_14 : decode cX8_fault 14 = .ok (.if_icmp .ne 13, 3) := by decide +kernel
theorem dX8_fault_17 : decode cX8_fault 17 = .ok (.aload_n 0, 1) := by decide +kernel
theorem dX8_fault_18 : decode cX8_fault 18 = .ok (.getfield 10, 3) := by decide +kernel
theorem dX8_fault_21 : decode cX8_fault 21 = .ok (.getfield 78, 3) := by decide +kernel
theorem dX8_fault_24 : decode cX8_fault 24 = .ok (.goto 4, 3) := by decide +kernel
theorem dX8_fault_27 : decode cX8_fault 27 = .ok (.iconst (-1), 1) := by decide +kernel
theorem dX8_fault_28 : decode cX8_fault 28 = .ok (.ireturn, 1) := by decide +kernel
theorem dX8_feed_0 : decode cX8_feed 0 = .ok (.aload_n 0, 1) := by decide +kernel
theorem dX8_feed_1 : decode cX8_feed 1 = .ok (.getfield 10, 3) := by decide +kernel
theorem dX8_feed_4 : decode cX8_feed 4 = .ok (.getfield 60, 3) := by decide +kernel
theorem dX8_feed_7 : decode cX8_feed 7 = .ok (.sipush 880, 3) := by decide +kernel
theorem dX8_feed_10 : decode cX8_feed 10 = .ok (.if_icmp .le 5, 3) := by decide +kernel
theorem dX8_feed_13 : decode cX8_feed 13 = .ok (.iconst (-1), 1) := by decide +kernel
theorem dX8_feed_14 : decode cX8_feed 14 = .ok (.ireturn, 1) := by decide +kernel
theorem dX8_feed_15 : decode cX8_feed 15 = .ok (.aload_n 0, 1) := by decide +kernel
theorem dX8_feed_16 : decode cX8_feed 16 = .ok (.getfield 10, 3) := by decide +kernel
theorem dX8_feed_19 : decode cX8_feed 19 = .ok (.iload_n 1, 1) := by decide +kernel
theorem dX8_feed_20 : decode cX8_feed 20 = .ok (.invokevirtual 64, 3) := by decide +kernel
theorem dX8_feed_23 : decode cX8_feed 23 = .ok (.aload_n 0, 1) := by decide +kernel
theorem dX8_feed_24 : decode cX8_feed 24 = .ok (.getfield 10, 3) := by decide +kernel
theorem dX8_feed_27 : decode cX8_feed 27 = .ok (.iload_n 2, 1) := by decide +kernel
theorem dX8_feed_28 : decode cX8_feed 28 = .ok (.invokevirtual 64, 3) := by decide +kernel
theorem dX8_feed_31 : decode cX8_feed 31 = .ok (.aload_n 0, 1) := by decide +kernel
theorem dX8_feed_32 : decode cX8_feed 32 = .ok (.getfield 10, 3) := by decide +kernel
theorem dX8_feed_35 : decode cX8_feed 35 = .ok (.iload_n 3, 1) := by decide +kernel
theorem dX8_feed_36 : decode cX8_feed 36 = .ok (.invokevirtual 64, 3) := by decide +kernel
theorem dX8_feed_39 : decode cX8_feed 39 = .ok (.aload_n 0, 1) := by decide +kernel
theorem dX8_feed_40 : decode cX8_feed 40 = .ok (.getfield 10, 3) := by decide +kernel
theorem dX8_feed_43 : decode cX8_feed 43 = .ok (.iload 4, 2) := by decide +kernel
theorem dX8_feed_45 : decode cX8_feed 45 = .ok (.invokevirtual 64, 3) := by decide +kernel
theorem dX8_feed_48 : decode cX8_feed 48 = .ok (.aload_n 0, 1) := by decide +kernel
theorem dX8_feed_49 : decode cX8_feed 49 = .ok (.getfield 10, 3) := by decide +kernel
theorem dX8_feed_52 : decode cX8_feed 52 = .ok (.iload 5, 2) := by decide +kernel
theorem dX8_feed_54 : decode cX8_feed 54 = .ok (.invokevirtual 64, 3) := by decide +kernel
theorem dX8_feed_57 : decode cX8_feed 57 = .ok (.aload_n 0, 1) := by decide +kernel
theorem dX8_feed_58 : decode cX8_feed 58 = .ok (.getfield 10, 3) := by decide +kernel
theorem dX8_feed_61 : decode cX8_feed 61 = .ok (.getfield 60, 3) := by decide +kernel
theorem dX8_feed_64 : decode cX8_feed 64 = .ok (.ireturn, 1) := by decide +kernel
theorem dX8_isDay_0 : decode cX8_isDay 0 = .ok (.iload_n 0, 1) := by decide +kernel
theorem dX8_isDay_1 : decode cX8_isDay 1 = .ok (.iconst 0, 1) := by decide +kernel
theorem dX8_isDay_2 : decode cX8_isDay 2 = .ok (.sipush 727, 3) := by decide +kernel
theorem dX8_isDay_5 : decode cX8_isDay 5 = .ok (.invokestatic 81, 3) := by decide +kernel
theorem dX8_isDay_8 : decode cX8_isDay 8 = .ok (.ireturn, 1) := by decide +kernel
theorem dX8_holiday_0 : decode cX8_holiday 0 = .ok (.iload_n 2, 1) := by decide +kernel
theorem dX8_holiday_1 : decode cX8_holiday 1 = .ok (.invokestatic 107, 3) := by decide +kernel
theorem dX8_holiday_4 : decode cX8_holiday 4 = .ok (.ifCond .eq 28, 3) := by decide +kernel
theorem dX8_holiday_7 : decode cX8_holiday 7 = .ok (.iload_n 3, 1) := by decide +kernel
theorem dX8_holiday_8 : decode cX8_holiday 8 = .ok (.iconst 1, 1) := by decide +kernel
theorem dX8_holiday_9 : decode cX8_holiday 9 = .ok (.bipush 20, 2) := by decide +kernel
theorem dX8_holiday_11 : decode cX8_holiday 11 = .ok (.invokestatic 81, 3) := by decide +kernel
theorem dX8_holiday_14 : decode cX8_holiday 14 = .ok (.ifCond .eq 18, 3) := by decide +kernel
theorem dX8_holiday_17 : decode cX8_holiday 17 = .ok (.iload 4, 2) := by decide +kernel
theorem dX8_holiday_19 : decode cX8_holiday 19 = .ok (.iconst 0, 1) := by decide +kernel
theorem dX8_holiday_20 : decode cX8_holiday 20 = .ok (.ldc 110, 2) := by decide +kernel
theorem dX8_holiday_22 : decode cX8_holiday 22 = .ok (.invokestatic 81, 3) := by decide +kernel
theorem dX8_holiday_25 : decode cX8_holiday 25 = .ok (.ifCond .eq 7, 3) := by decide +kernel
theorem dX8_holiday_28 : decode cX8_holiday 28 = .ok (.iconst 1, 1) := by decide +kernel
theorem dX8_holiday_29 : decode cX8_holiday 29 = .ok (.goto 4, 3) := by decide +kernel
theorem dX8_holiday_32 : decode cX8_holiday 32 = .ok (.iconst 0, 1) := by decide +kernel
theorem dX8_holiday_33 : decode cX8_holiday 33 = .ok (.istore 5, 2) := by decide +kernel
theorem dX8_holiday_35 : decode cX8_holiday 35 = .ok (.iload 5, 2) := by decide +kernel
theorem dX8_holiday_37 : decode cX8_holiday 37 = .ok (.ifCond .eq 16, 3) := by decide +kernel
theorem dX8_holiday_40 : decode cX8_holiday 40 = .ok (.aload_n 0, 1) := by decide +kernel
theorem dX8_holiday_41 : decode cX8_holiday 41 = .ok (.iconst 3, 1) := by decide +kernel
theorem dX8_holiday_42 : decode cX8_holiday 42 = .ok (.iload_n 1, 1) := by decide +kernel
theorem dX8_holiday_43 : decode cX8_holiday 43 = .ok (.iload_n 2, 1) := by decide +kernel
theorem dX8_holiday_44 : decode cX8_holiday 44 = .ok (.iload_n 3, 1) := by decide +kernel
theorem dX8_holiday_45 : decode cX8_holiday 45 = .ok (.iload 4, 2) := by decide +kernel
theorem dX8_holiday_47 : decode cX8_holiday 47 = .ok (.invokevirtual 95, 3) := by decide +kernel
theorem dX8_holiday_50 : decode cX8_holiday 50 = .ok (.goto 4, 3) := by decide +kernel
theorem dX8_holiday_53 : decode cX8_holiday 53 = .ok (.iconst (-1), 1) := by decide +kernel
theorem dX8_holiday_54 : decode cX8_holiday 54 = .ok (.ireturn, 1) := by decide +kernel
theorem dX8_init_0 : decode cX8_init 0 = .ok (.aload_n 0, 1) := by decide +kernel
theorem dX8_init_1 : decode cX8_init 1 = .ok (.invokespecial 1, 3) := by decide +kernel
theorem dX8_init_4 : decode cX8_init 4 = .ok (.aload_n 0, 1) := by decide +kernel
theorem dX8_init_5 : decode cX8_init 5 = .ok (.new 7, 3) := by decide +kernel
theorem dX8_init_8 : decode cX8_init 8 = .ok (.dup, 1) := by decide +kernel
theorem dX8_init_9 : decode cX8_init 9 = .ok (.invokespecial 9, 3) := by decide +kernel
theorem dX8_init_12 : decode cX8_init 12 = .ok (.putfield 10, 3) := by decide +kernel
theorem dX8_init_15 : decode cX8_init 15 = .ok (.aload_n 0, 1) := by decide +kernel
theorem dX8_init_16 : decode cX8_init 16 = .ok (.iconst 4, 1) := by decide +kernel
theorem dX8_init_17 : decode cX8_init 17 = .ok (.anewarray 16, 3) := by decide +kernel
theorem dX8_init_20 : decode cX8_init 20 = .ok (.putfield 18, 3) := by decide +kernel
theorem dX8_init_23 : decode cX8_init 23 = .ok (.aload_n 0, 1) := by decide +kernel
theorem dX8_init_24 : decode cX8_init 24 = .ok (.bipush 10, 2) := by decide +kernel
theorem dX8_init_26 : decode cX8_init 26 = .ok (.anewarray 22, 3) := by decide +kernel
theorem dX8_init_29 : decode cX8_init 29 = .ok (.putfield 24, 3) := by decide +kernel
theorem dX8_init_32 : decode cX8_init 32 = .ok (.aload_n 0, 1) := by decide +kernel
theorem dX8_init_33 : decode cX8_init 33 = .ok (.sipush 250, 3) := by decide +kernel
theorem dX8_init_36 : decode cX8_init 36 = .ok (.anewarray 28, 3) := by decide +kernel
theorem dX8_init_39 : decode cX8_init 39 = .ok (.putfield 30, 3) := by decide +kernel
theorem dX8_init_42 : decode cX8_init 42 = .ok (.aload_n 0, 1) := by decide +kernel
theorem dX8_init_43 : decode cX8_init 43 = .ok (.new 34, 3) := by decide +kernel
theorem dX8_init_46 : decode cX8_init 46 = .ok (.dup, 1) := by decide +kernel
theorem dX8_init_47 : decode cX8_init 47 = .ok (.invokespecial 36, 3) := by decide +kernel
theorem dX8_init_50 : decode cX8_init 50 = .ok (.putfield 37, 3) := by decide +kernel
theorem dX8_init_53 : decode cX8_init 53 = .ok (.aload_n 0, 1) := by decide +kernel
theorem dX8_init_54 : decode cX8_init 54 = .ok (.new 41, 3) := by decide +kernel
theorem dX8_init_57 : decode cX8_init 57 = .ok (.dup, 1) := by decide +kernel
theorem dX8_init_58 : decode cX8_init 58 = .ok (.invokespecial 43, 3) := by decide +kernel
theorem dX8_init_61 : decode cX8_init 61 = .ok (.putfield 44, 3) := by decide +kernel
theorem dX8_init_64 : decode cX8_init 64 = .ok (.aload_n 0, 1) := by decide +kernel
theorem dX8_init_65 : decode cX8_init 65 = .ok (.bipush 10, 2) := by decide +kernel
theorem dX8_init_67 : decode cX8_init 67 = .ok (.newarray .long, 2) := by decide +kernel
theorem dX8_init_69 : decode cX8_init 69 = .ok (.putfield 48, 3) := by decide +kernel
theorem dX8_init_72 : decode cX8_init 72 = .ok (.aload_n 0, 1) := by decide +kernel
theorem dX8_init_73 : decode cX8_init 73 = .ok (.bipush 10, 2) := by decide +kernel
theorem dX8_init_75 : decode cX8_init 75 = .ok (.newarray .int, 2) := by decide +kernel
theorem dX8_init_77 : decode cX8_init 77 = .ok (.putfield 52, 3) := by decide +kernel
theorem dX8_init_80 : decode cX8_init 80 = .ok (.aload_n 0, 1) := by decide +kernel
theorem dX8_init_81 : decode cX8_init 81 = .ok (.bipush 32, 2) := by decide +kernel
theorem dX8_init_83 : decode cX8_init 83 = .ok (.newarray .long, 2) := by decide +kernel
theorem dX8_init_85 : decode cX8_init 85 = .ok (.putfield 56, 3) := by decide +kernel
theorem dX8_init_88 : decode cX8_init 88 = .ok (.new 16, 3) := by decide +kernel
theorem dX8_init_91 : decode cX8_init 91 = .ok (.dup, 1) := by decide +kernel
theorem dX8_init_92 : decode cX8_init 92 = .ok (.invokespecial 59, 3) := by decide +kernel
theorem dX8_init_95 : decode cX8_init 95 = .ok (.astore_n 1, 1) := by decide +kernel
theorem dX8_init_96 : decode cX8_init 96 = .ok (.iconst 0, 1) := by decide +kernel
theorem dX8_init_97 : decode cX8_init 97 = .ok (.istore_n 2, 1) := by decide +kernel
theorem dX8_init_98 : decode cX8_init 98 = .ok (.iload_n 2, 1) := by decide +kernel
theorem dX8_init_99 : decode cX8_init 99 = .ok (.aload_n 0, 1) := by decide +kernel
theorem dX8_init_100 : decode cX8_init 100 = .ok (.getfield 18, 3) := by decide +kernel
theorem dX8_init_103 : decode cX8_init 103 = .ok (.arraylength, 1) := by decide +kernel
theorem dX8_init_104 : decode cX8_init 104 = .ok (.if_icmp .ge 16, 3) := by decide +kernel
theorem dX8_init_107 : decode cX8_init 107 = .ok (.aload_n 0, 1) := by decide +kernel
theorem dX8_init_108 : decode cX8_init 108 = .ok (.getfield 18, 3) := by decide +kernel
theorem dX8_init_111 : decode cX8_init 111 = .ok (.iload_n 2, 1) := by decide +kernel
theorem dX8_init_112 : decode cX8_init 112 = .ok (.aload_n 1, 1) := by decide +kernel
theorem dX8_init_113 : decode cX8_init 113 = .ok (.aastore, 1) := by decide +kernel
theorem dX8_init_114 : decode cX8_init 114 = .ok (.iinc 2 1, 3) := by decide +kernel
theorem dX8_init_117 : decode cX8_init 117 = .ok (.goto (-19), 3) := by decide +kernel
theorem dX8_init_120 : decode cX8_init 120 = .ok (.return_, 1) := by decide +kernel
theorem dX8_later_0 : decode cX8_later 0 = .ok (.iload_n 1, 1) := by decide +kernel
theorem dX8_later_1 : decode cX8_later 1 = .ok (.iconst 0, 1) := by decide +kernel
theorem dX8_later_2 : decode cX8_later 2 = .ok (.sipush 1000, 3) := by decide +kernel
theorem dX8_later_5 : decode cX8_later 5 = .ok (.invokestatic 81, 3) := by decide +kernel
theorem dX8_later_8 : decode cX8_later 8 = .ok (.ifCond .eq 14, 3) := by decide +kernel
theorem dX8_later_11 : decode cX8_later 11 = .ok (.aload_n 0, 1) := by decide +kernel
theorem dX8_later_12 : decode cX8_later 12 = .ok (.getfield 114, 3) := by decide +kernel
theorem dX8_later_15 : decode cX8_later 15 = .ok (.iload_n 1, 1) := by decide +kernel
theorem dX8_later_16 : decode cX8_later 16 = .ok (.iadd, 1) := by decide +kernel
theorem dX8_later_17 : decode cX8_later 17 = .ok (.ldc 141, 2) := by decide +kernel
theorem dX8_later_19 : decode cX8_later 19 = .ok (.if_icmp .le 5, 3) := by decide +kernel
theorem dX8_later_22 : decode cX8_later 22 = .ok (.iconst (-1), 1) := by decide +kernel
theorem dX8_later_23 : decode cX8_later 23 = .ok (.ireturn, 1) := by decide +kernel
theorem dX8_later_24 : decode cX8_later 24 = .ok (.aload_n 0, 1) := by decide +kernel
theorem dX8_later_25 : decode cX8_later 25 = .ok (.dup, 1) := by decide +kernel
theorem dX8_later_26 : decode cX8_later 26 = .ok (.getfield 114, 3) := by decide +kernel
theorem dX8_later_29 : decode cX8_later 29 = .ok (.iload_n 1, 1) := by decide +kernel
theorem dX8_later_30 : decode cX8_later 30 = .ok (.iadd, 1) := by decide +kernel
theorem dX8_later_31 : decode cX8_later 31 = .ok (.putfield 114, 3) := by decide +kernel
theorem dX8_later_34 : decode cX8_later 34 = .ok (.aload_n 0, 1) := by decide +kernel
theorem dX8_later_35 : decode cX8_later 35 = .ok (.getfield 114, 3) := by decide +kernel
theorem dX8_later_38 : decode cX8_later 38 = .ok (.ireturn, 1) := by decide +kernel
theorem dX8_link_0 : decode cX8_link 0 = .ok (.aload_n 0, 1) := by decide +kernel
theorem dX8_link_1 : decode cX8_link 1 = .ok (.iload_n 1, 1) := by decide +kernel
theorem dX8_link_2 : decode cX8_link 2 = .ok (.iload_n 2, 1) := by decide +kernel
theorem dX8_link_3 : decode cX8_link 3 = .ok (.iload 4, 2) := by decide +kernel
theorem dX8_link_5 : decode cX8_link 5 = .ok (.iload 5, 2) := by decide +kernel
theorem dX8_link_7 : decode cX8_link 7 = .ok (.invokevirtual 187, 3) := by decide +kernel
theorem dX8_link_10 : decode cX8_link 10 = .ok (.ifCond .eq 18, 3) := by decide +kernel
theorem dX8_link_13 : decode cX8_link 13 = .ok (.iload_n 3, 1) := by decide +kernel
theorem dX8_link_14 : decode cX8_link 14 = .ok (.ifCond .lt 14, 3) := by decide +kernel
theorem dX8_link_17 : decode cX8_link 17 = .ok (.iload_n 3, 1) := by decide +kernel
theorem dX8_link_18 : decode cX8_link 18 = .ok (.aload_n 0, 1) := by decide +kernel
theorem dX8_link_19 : decode cX8_link 19 = .ok (.getfield 44, 3) := by decide +kernel
theorem dX8_link_22 : decode cX8_link 22 = .ok (.invokevirtual 190, 3) := by decide +kernel
theorem dX8_link_25 : decode cX8_link 25 = .ok (.if_icmp .lt 5, 3) := by decide +kernel
theorem dX8_link_28 : decode cX8_link 28 = .ok (.iconst (-1), 1) := by decide +kernel
theorem dX8_link_29 : decode cX8_link 29 = .ok (.ireturn, 1) := by decide +kernel
theorem dX8_link_30 : decode cX8_link 30 = .ok (.aload_n 0, 1) := by decide +kernel
theorem dX8_link_31 : decode cX8_link 31 = .ok (.getfield 44, 3) := by decide +kernel
theorem dX8_link_34 : decode cX8_link 34 = .ok (.aload_n 0, 1) := by decide +kernel
theorem dX8_link_35 : decode cX8_link 35 = .ok (.getfield 44, 3) := by decide +kernel
theorem dX8_link_38 : decode cX8_link 38 = .ok (.getfield 194, 3) := by decide +kernel
theorem dX8_link_41 : decode cX8_link 41 = .ok (.iload_n 3, 1) := by decide +kernel
theorem dX8_link_42 : decode cX8_link 42 = .ok (.isub, 1) := by decide +kernel
theorem dX8_link_43 : decode cX8_link 43 = .ok (.invokevirtual 197, 3) := by decide +kernel
theorem dX8_link_46 : decode cX8_link 46 = .ok (.astore 6, 2) := by decide +kernel
theorem dX8_link_48 : decode cX8_link 48 = .ok (.aload 6, 2) := by decide +kernel
theorem dX8_link_50 : decode cX8_link 50 = .ok (.ifnonnull 7, 3) := by decide +kernel
theorem dX8_link_53 : decode cX8_link 53 = .ok (.iconst (-1), 1) := by decide +kernel
theorem dX8_link_54 : decode cX8_link 54 = .ok (.goto 8, 3) := by decide +kernel
theorem dX8_link_57 : decode cX8_link 57 = .ok (.aload 6, 2) := by decide +kernel
theorem dX8_link_59 : decode cX8_link 59 = .ok (.getfield 127, 3) := by decide +kernel
theorem dX8_link_62 : decode cX8_link 62 = .ok (.ireturn, 1) := by decide +kernel
theorem dX8_lost_0 : decode cX8_lost 0 = .ok (.iload_n 2, 1) := by decide +kernel
theorem dX8_lost_1 : decode cX8_lost 1 = .ok (.invokestatic 91, 3) := by decide +kernel
theorem dX8_lost_4 : decode cX8_lost 4 = .ok (.ifCond .eq 15, 3) := by decide +kernel
theorem dX8_lost_7 : decode cX8_lost 7 = .ok (.aload_n 0, 1) := by decide +kernel
theorem dX8_lost_8 : decode cX8_lost 8 = .ok (.iconst 1, 1) := by decide +kernel
theorem dX8_lost_9 : decode cX8_lost 9 = .ok (.iload_n 1, 1) := by decide +kernel
theorem dX8_lost_10 : decode cX8_lost 10 = .ok (.iload_n 2, 1) := by decide +kernel
theorem dX8_lost_11 : decode cX8_lost 11 = .ok (.iconst 0, 1) := by decide +kernel
theorem dX8_lost_12 : decode cX8_lost 12 = .ok (.iconst 0, 1) := by decide +kernel
theorem dX8_lost_13 : decode cX8_lost 13 = .ok (.invokevirtual 95, 3) := by decide +kernel
theorem dX8_lost_16 : decode cX8_lost 16 = .ok (.goto 4, 3) := by decide +kernel
theorem dX8_lost_19 : decode cX8_lost 19 = .ok (.iconst (-1), 1) := by decide +kernel
theorem dX8_lost_20 : decode cX8_lost 20 = .ok (.ireturn, 1) := by decide +kernel
theorem dX8_marks_0 : decode cX8_marks 0 = .ok (.aload_n 0, 1) := by decide +kernel
theorem dX8_marks_1 : decode cX8_marks 1 = .ok (.iload_n 1, 1) := by decide +kernel
theorem dX8_marks_2 : decode cX8_marks 2 = .ok (.iload_n 2, 1) := by decide +kernel
theorem dX8_marks_3 : decode cX8_marks 3 = .ok (.iload_n 3, 1) := by decide +kernel
theorem dX8_marks_4 : decode cX8_marks 4 = .ok (.iload 4, 2) := by decide +kernel
theorem dX8_marks_6 : decode cX8_marks 6 = .ok (.invokevirtual 159, 3) := by decide +kernel
theorem dX8_marks_9 : decode cX8_marks 9 = .ok (.ifCond .ne 5, 3) := by decide +kernel
theorem dX8_marks_12 : decode cX8_marks 12 = .ok (.iconst (-1), 1) := by decide +kernel
theorem dX8_marks_13 : decode cX8_marks 13 = .ok (.ireturn, 1) := by decide +kernel
theorem dX8_marks_14 : decode cX8_marks 14 = .ok (.aload_n 0, 1) := by decide +kernel
theorem dX8_marks_15 : decode cX8_marks 15 = .ok (.getfield 44, 3) := by decide +kernel
theorem dX8_marks_18 : decode cX8_marks 18 = .ok (.iload 4, 2) := by decide +kernel
theorem dX8_marks_20 : decode cX8_marks 20 = .ok (.invokevirtual 206, 3) := by decide +kernel
theorem dX8_marks_23 : decode cX8_marks 23 = .ok (.aload_n 0, 1) := by decide +kernel
theorem dX8_marks_24 : decode cX8_marks 24 = .ok (.getfield 44, 3) := by decide +kernel
theorem dX8_marks_27 : decode cX8_marks 27 = .ok (.iload 4, 2) := by decide +kernel
theorem dX8_marks_29 : decode cX8_marks 29 = .ok (.invokevirtual 209, 3) := by decide +kernel
theorem dX8_marks_32 : decode cX8_marks 32 = .ok (.aload_n 0, 1) := by decide +kernel
theorem dX8_marks_33 : decode cX8_marks 33 = .ok (.getfield 44, 3) := by decide +kernel
theorem dX8_marks_36 : decode cX8_marks 36 = .ok (.getfield 226, 3) := by decide +kernel
theorem dX8_marks_39 : decode cX8_marks 39 = .ok (.ireturn, 1) := by decide +kernel
theorem dX8_owed_0 : decode cX8_owed 0 = .ok (.aload_n 0, 1) := by decide +kernel
theorem dX8_owed_1 : decode cX8_owed 1 = .ok (.iconst 3, 1) := by decide +kernel
theorem dX8_owed_2 : decode cX8_owed 2 = .ok (.iload_n 2, 1) := by decide +kernel
theorem dX8_owed_3 : decode cX8_owed 3 = .ok (.invokevirtual 170, 3) := by decide +kernel
theorem dX8_owed_6 : decode cX8_owed 6 = .ok (.astore 5, 2) := by decide +kernel
theorem dX8_owed_8 : decode cX8_owed 8 = .ok (.aload 5, 2) := by decide +kernel
theorem dX8_owed_10 : decode cX8_owed 10 = .ok (.ifnull 19, 3) := by decide +kernel
theorem dX8_owed_13 : decode cX8_owed 13 = .ok (.aload_n 0, 1) := by decide +kernel
theorem dX8_owed_14 : decode cX8_owed 14 = .ok (.iload_n 1, 1) := by decide +kernel
theorem dX8_owed_15 : decode cX8_owed 15 = .ok (.aload 5, 2) := by decide +kernel
theorem dX8_owed_17 : decode cX8_owed 17 = .ok (.getfield 120, 3) := by decide +kernel
theorem dX8_owed_20 : decode cX8_owed 20 = .ok (.iload_n 3, 1) := by decide +kernel
theorem dX8_owed_21 : decode cX8_owed 21 = .ok (.iload 4, 2) := by decide +kernel
theorem dX8_owed_23 : decode cX8_owed 23 = .ok (.invokevirtual 159, 3) := by decide +kernel
theorem dX8_owed_26 : decode cX8_owed 26 = .ok (.ifCond .ne 5, 3) := by decide +kernel
theorem dX8_owed_29 : decode cX8_owed 29 = .ok (.iconst (-1), 1) := by decide +kernel
theorem dX8_owed_30 : decode cX8_owed 30 = .ok (.ireturn, 1) := by decide +kernel
theorem dX8_owed_31 : decode cX8_owed 31 = .ok (.aload_n 0, 1) := by decide +kernel
theorem dX8_owed_32 : decode cX8_owed 32 = .ok (.getfield 44, 3) := by decide +kernel
theorem dX8_owed_35 : decode cX8_owed 35 = .ok (.aload 5, 2) := by decide +kernel
theorem dX8_owed_37 : decode cX8_owed 37 = .ok (.iload 4, 2) := by decide +kernel
theorem dX8_owed_39 : decode cX8_owed 39 = .ok (.invokevirtual 183, 3) := by decide +kernel
theorem dX8_owed_42 : decode cX8_owed 42 = .ok (.ireturn, 1) := by decide +kernel
theorem dX8_pay_0 : decode cX8_pay 0 = .ok (.iload_n 2, 1) := by decide +kernel
theorem dX8_pay_1 : decode cX8_pay 1 = .ok (.invokestatic 91, 3) := by decide +kernel
theorem dX8_pay_4 : decode cX8_pay 4 = .ok (.ifCond .eq 38, 3) := by decide +kernel
theorem dX8_pay_7 : decode cX8_pay 7 = .ok (.iload_n 3, 1) := by decide +kernel
theorem dX8_pay_8 : decode cX8_pay 8 = .ok (.iconst 0, 1) := by decide +kernel
theorem dX8_pay_9 : decode cX8_pay 9 = .ok (.iconst 5, 1) := by decide +kernel
theorem dX8_pay_10 : decode cX8_pay 10 = .ok (.invokestatic 81, 3) := by decide +kernel
theorem dX8_pay_13 : decode cX8_pay 13 = .ok (.ifCond .eq 29, 3) := by decide +kernel
theorem dX8_pay_16 : decode cX8_pay 16 = .ok (.iload 4, 2) := by decide +kernel
theorem dX8_pay_18 : decode cX8_pay 18 = .ok (.iconst 0, 1) := by decide +kernel
theorem dX8_pay_19 : decode cX8_pay 19 = .ok (.iload_n 3, 1) := by decide +kernel
theorem dX8_pay_20 : decode cX8_pay 20 = .ok (.iconst 5, 1) := by decide +kernel
theorem dX8_pay_21 : decode cX8_pay 21 = .ok (.if_icmp .ne 8, 3) := by decide +kernel
theorem dX8_pay_24 : decode cX8_pay 24 = .ok (.bipush 99, 2) := by decide +kernel
theorem dX8_pay_26 : decode cX8_pay 26 = .ok (.goto 6, 3) := by decide +kernel
theorem dX8_pay_29 : decode cX8_pay 29 = .ok (.sipush 9999, 3) := by decide +kernel
theorem dX8_pay_32 : decode cX8_pay 32 = .ok (.invokestatic 81, 3) := by decide +kernel
theorem dX8_pay_35 : decode cX8_pay 35 = .ok (.ifCond .eq 7, 3) := by decide +kernel
theorem dX8_pay_38 : decode cX8_pay 38 = .ok (.iconst 1, 1) := by decide +kernel
theorem dX8_pay_39 : decode cX8_pay 39 = .ok (.goto 4, 3) := by decide +kernel
theorem dX8_pay_42 : decode cX8_pay 42 = .ok (.iconst 0, 1) := by decide +kernel
theorem dX8_pay_43 : decode cX8_pay 43 = .ok (.istore 5, 2) := by decide +kernel
theorem dX8_pay_45 : decode cX8_pay 45 = .ok (.iload 5, 2) := by decide +kernel
theorem dX8_pay_47 : decode cX8_pay 47 = .ok (.ifCond .eq 16, 3) := by decide +kernel
theorem dX8_pay_50 : decode cX8_pay 50 = .ok (.aload_n 0, 1) := by decide +kernel
theorem dX8_pay_51 : decode cX8_pay 51 = .ok (.iconst 0, 1) := by decide +kernel
theorem dX8_pay_52 : decode cX8_pay 52 = .ok (.iload_n 1, 1) := by decide +kernel
theorem dX8_pay_53 : decode cX8_pay 53 = .ok (.iload_n 2, 1) := by decide +kernel
theorem dX8_pay_54 : decode cX8_pay 54 = .ok (.iload_n 3, 1) := by decide +kernel
theorem dX8_pay_55 : decode cX8_pay 55 = .ok (.iload 4, 2) := by decide +kernel
theorem dX8_pay_57 : decode cX8_pay 57 = .ok (.invokevirtual 95, 3) := by decide +kernel
theorem dX8_pay_60 : decode cX8_pay 60 = .ok (.goto 4, 3) := by decide +kernel
theorem dX8_pay_63 : decode cX8_pay 63 = .ok (.iconst (-1), 1) := by decide +kernel
theorem dX8_pay_64 : decode cX8_pay 64 = .ok (.ireturn, 1) := by decide +kernel
theorem dX8_payout_0 : decode cX8_payout 0 = .ok (.aload_n 0, 1) := by decide +kernel
theorem dX8_payout_1 : decode cX8_payout 1 = .ok (.iload_n 1, 1) := by decide +kernel
theorem dX8_payout_2 : decode cX8_payout 2 = .ok (.iload_n 2, 1) := by decide +kernel
theorem dX8_payout_3 : decode cX8_payout 3 = .ok (.iload_n 3, 1) := by decide +kernel
theorem dX8_payout_4 : decode cX8_payout 4 = .ok (.iload 4, 2) := by decide +kernel
theorem dX8_payout_6 : decode cX8_payout 6 = .ok (.invokevirtual 159, 3) := by decide +kernel
theorem dX8_payout_9 : decode cX8_payout 9 = .ok (.ifCond .ne 7, 3) := by decide +kernel
theorem dX8_payout_12 : decode cX8_payout 12 = .ok (.ldc2_w 200, 3) := by decide +kernel
theorem dX8_payout_15 : decode cX8_payout 15 = .ok (.lreturn, 1) := by decide +kernel
theorem dX8_payout_16 : decode cX8_payout 16 = .ok (.aload_n 0, 1) := by decide +kernel
theorem dX8_payout_17 : decode cX8_payout 17 = .ok (.getfield 44, 3) := by decide +kernel
theorem dX8_payout_20 : decode cX8_payout 20 = .ok (.iload 4, 2) := by decide +kernel
theorem dX8_payout_22 : decode cX8_payout 22 = .ok (.invokevirtual 206, 3) := by decide +kernel
theorem dX8_payout_25 : decode cX8_payout 25 = .ok (.aload_n 0, 1) := by decide +kernel
theorem dX8_payout_26 : decode cX8_payout 26 = .ok (.getfield 44, 3) := by decide +kernel
theorem dX8_payout_29 : decode cX8_payout 29 = .ok (.iload 4, 2) := by decide +kernel
theorem dX8_payout_31 : decode cX8_payout 31 = .ok (.invokevirtual 209, 3) := by decide +kernel
theorem dX8_payout_34 : decode cX8_payout 34 = .ok (.aload_n 0, 1) := by decide +kernel
theorem dX8_payout_35 : decode cX8_payout 35 = .ok (.getfield 44, 3) := by decide +kernel
theorem dX8_payout_38 : decode cX8_payout 38 = .ok (.getfield 212, 3) := by decide +kernel
theorem dX8_payout_41 : decode cX8_payout 41 = .ok (.lreturn, 1) := by decide +kernel
theorem dX8_quarrel_0 : decode cX8_quarrel 0 = .ok (.aload_n 0, 1) := by decide +kernel
theorem dX8_quarrel_1 : decode cX8_quarrel 1 = .ok (.iload_n 1, 1) := by decide +kernel
theorem dX8_quarrel_2 : decode cX8_quarrel 2 = .ok (.invokevirtual 99, 3) := by decide +kernel
theorem dX8_quarrel_5 : decode cX8_quarrel 5 = .ok (.astore_n 3, 1) := by decide +kernel
theorem dX8_quarrel_6 : decode cX8_quarrel 6 = .ok (.aload_n 3, 1) := by decide +kernel
theorem dX8_quarrel_7 : decode cX8_quarrel 7 = .ok (.ifnonnull 6, 3) := by decide +kernel
theorem dX8_quarrel_10 : decode cX8_quarrel 10 = .ok (.bipush (-2), 2) := by decide +kernel
theorem dX8_quarrel_12 : decode cX8_quarrel 12 = .ok (.ireturn, 1) := by decide +kernel
theorem dX8_quarrel_13 : decode cX8_quarrel 13 = .ok (.aload_n 3, 1) := by decide +kernel
theorem dX8_quarrel_14 : decode cX8_quarrel 14 = .ok (.iload_n 2, 1) := by decide +kernel
theorem dX8_quarrel_15 : decode cX8_quarrel 15 = .ok (.aload_n 0, 1) := by decide +kernel
theorem dX8_quarrel_16 : decode cX8_quarrel 16 = .ok (.getfield 37, 3) := by decide +kernel
theorem dX8_quarrel_19 : decode cX8_quarrel 19 = .ok (.invokevirtual 142, 3) := by decide +kernel
theorem dX8_quarrel_22 : decode cX8_quarrel 22 = .ok (.aload_n 3, 1) := by decide +kernel
theorem dX8_quarrel_23 : decode cX8_quarrel 23 = .ok (.getfield 156, 3) := by decide +kernel
theorem dX8_quarrel_26 : decode cX8_quarrel 26 = .ok (.ireturn, 1) := by decide +kernel
theorem dX8_weighAll_0 : decode cX8_weighAll 0 = .ok (.lconst 0, 1) := by decide +kernel
theorem dX8_weighAll_1 : decode cX8_weighAll 1 = .ok (.lstore 4, 2) := by decide +kernel
theorem dX8_weighAll_3 : decode cX8_weighAll 3 = .ok (.iconst 0, 1) := by decide +kernel
theorem dX8_weighAll_4 : decode cX8_weighAll 4 = .ok (.istore 6, 2) := by decide +kernel
theorem dX8_weighAll_6 : decode cX8_weighAll 6 = .ok (.iload 6, 2) := by decide +kernel
theorem dX8_weighAll_8 : decode cX8_weighAll 8 = .ok (.aload_n 0, 1) := by decide +kernel
theorem dX8_weighAll_9 : decode cX8_weighAll 9 = .ok (.getfield 48, 3) := by decide +kernel
theorem dX8_weighAll_12 : decode cX8_weighAll 12 = .ok (.arraylength, 1) := by decide +kernel
theorem dX8_weighAll_13 : decode cX8_weighAll 13 = .ok (.if_icmp .ge 103, 3) := by decide +kernel
theorem dX8_weighAll_16 : decode cX8_weighAll 16 = .ok (.iload 6, 2) := by decide +kernel
theorem dX8_weighAll_18 : decode cX8_weighAll 18 = .ok (.aload_n 0, 1) := by decide +kernel
theorem dX8_weighAll_19 : decode cX8_weighAll 19 = .ok (.getfield 52, 3) := by decide +kernel
theorem dX8_weighAll_22 : decode cX8_weighAll 22 = .ok (.arraylength, 1) := by decide +kernel
theorem dX8_weighAll_23 : decode cX8_weighAll 23 = .ok (.if_icmp .ge 93, 3) := by decide +kernel
theorem dX8_weighAll_26 : decode cX8_weighAll 26 = .ok (.aload_n 0, 1) := by decide +kernel
theorem dX8_weighAll_27 : decode cX8_weighAll 27 = .ok (.getfield 48, 3) := by decide +kernel
theorem dX8_weighAll_30 : decode cX8_weighAll 30 = .ok (.iload 6, 2) := by decide +kernel
theorem dX8_weighAll_32 : decode cX8_weighAll 32 = .ok (.lconst 0, 1) := by decide +kernel
theorem dX8_weighAll_33 : decode cX8_weighAll 33 = .ok (.lastore, 1) := by decide +kernel
theorem dX8_weighAll_34 : decode cX8_weighAll 34 = .ok (.aload_n 0, 1) := by decide +kernel
theorem dX8_weighAll_35 : decode cX8_weighAll 35 = .ok (.getfield 52, 3) := by decide +kernel
theorem dX8_weighAll_38 : decode cX8_weighAll 38 = .ok (.iload 6, 2) := by decide +kernel
theorem dX8_weighAll_40 : decode cX8_weighAll 40 = .ok (.iconst 0, 1) := by decide +kernel
theorem dX8_weighAll_41 : decode cX8_weighAll 41 = .ok (.iastore, 1) := by decide +kernel
theorem dX8_weighAll_42 : decode cX8_weighAll 42 = .ok (.aload_n 0, 1) := by decide +kernel
theorem dX8_weighAll_43 : decode cX8_weighAll 43 = .ok (.iload_n 1, 1) := by decide +kernel
theorem dX8_weighAll_44 : decode cX8_weighAll 44 = .ok (.iload 6, 2) := by decide +kernel
theorem dX8_weighAll_46 : decode cX8_weighAll 46 = .ok (.iload_n 2, 1) := by decide +kernel
theorem dX8_weighAll_47 : decode cX8_weighAll 47 = .ok (.iload_n 3, 1) := by decide +kernel
theorem dX8_weighAll_48 : decode cX8_weighAll 48 = .ok (.invokevirtual 159, 3) := by decide +kernel
theorem dX8_weighAll_51 : decode cX8_weighAll 51 = .ok (.ifCond .eq 47, 3) := by decide +kernel
theorem dX8_weighAll_54 : decode cX8_weighAll 54 = .ok (.aload_n 0, 1) := by decide +kernel
theorem dX8_weighAll_55 : decode cX8_weighAll 55 = .ok (.getfield 44, 3) := by decide +kernel
theorem dX8_weighAll_58 : decode cX8_weighAll 58 = .ok (.iload_n 3, 1) := by decide +kernel
theorem dX8_weighAll_59 : decode cX8_weighAll 59 = .ok (.invokevirtual 206, 3) := by decide +kernel
theorem dX8_weighAll_62 : decode cX8_weighAll 62 = .ok (.aload_n 0, 1) := by decide +kernel
theorem dX8_weighAll_63 : decode cX8_weighAll 63 = .ok (.getfield 44, 3) := by decide +kernel
theorem dX8_weighAll_66 : decode cX8_weighAll 66 = .ok (.iload_n 3, 1) := by decide +kernel
theorem dX8_weighAll_67 : decode cX8_weighAll 67 = .ok (.invokevirtual 209, 3) := by decide +kernel
theorem dX8_weighAll_70 : decode cX8_weighAll 70 = .ok (.aload_n 0, 1) := by decide +kernel
theorem dX8_weighAll_71 : decode cX8_weighAll 71 = .ok (.getfield 48, 3) := by decide +kernel
theorem dX8_weighAll_74 : decode cX8_weighAll 74 = .ok (.iload 6, 2) := by decide +kernel
theorem dX8_weighAll_76 : decode cX8_weighAll 76 = .ok (.aload_n 0, 1) := by decide +kernel
theorem dX8_weighAll_77 : decode cX8_weighAll 77 = .ok (.getfield 44, 3) := by decide +kernel
theorem dX8_weighAll_80 : decode cX8_weighAll 80 = .ok (.getfield 212, 3) := by decide +kernel
theorem dX8_weighAll_83 : decode cX8_weighAll 83 = .ok (.lastore, 1) := by decide +kernel
theorem dX8_weighAll_84 : decode cX8_weighAll 84 = .ok (.aload_n 0, 1) := by decide +kernel
theorem dX8_weighAll_85 : decode cX8_weighAll 85 = .ok (.getfield 52, 3) := by decide +kernel
theorem dX8_weighAll_88 : decode cX8_weighAll 88 = .ok (.iload 6, 2) := by decide +kernel
theorem dX8_weighAll_90 : decode cX8_weighAll 90 = .ok (.aload_n 0, 1) := by decide +kernel
theorem dX8_weighAll_91 : decode cX8_weighAll 91 = .ok (.getfield 44, 3) := by decide +kernel
theorem dX8_weighAll_94 : decode cX8_weighAll 94 = .ok (.getfield 226, 3) := by decide +kernel
theorem dX8_weighAll_97 : decode cX8_weighAll 97 = .ok (.iastore, 1) := by decide +kernel
theorem dX8_weighAll_98 : decode cX8_weighAll 98 = .ok (.lload 4, 2) := by decide +kernel
theorem dX8_weighAll_100 : decode cX8_weighAll 100 = .ok (.aload_n 0, 1) := by decide +kernel
theorem dX8_weighAll_101 : decode cX8_weighAll 101 = .ok (.getfield 48, 3) := by decide +kernel
theorem dX8_weighAll_104 : decode cX8_weighAll 104 = .ok (.iload 6, 2) := by decide +kernel
theorem dX8_weighAll_106 : decode cX8_weighAll 106 = .ok (.laload, 1) := by decide +kernel
theorem dX8_weighAll_107 : decode cX8_weighAll 107 = .ok (.ladd, 1) := by decide +kernel
theorem dX8_weighAll_108 : decode cX8_weighAll 108 = .ok (.lstore 4, 2) := by decide +kernel
theorem dX8_weighAll_110 : decode cX8_weighAll 110 = .ok (.iinc 6 1, 3) := by decide +kernel
theorem dX8_weighAll_113 : decode cX8_weighAll 113 = .ok (.goto (-107), 3) := by decide +kernel
theorem dX8_weighAll_116 : decode cX8_weighAll 116 = .ok (.lload 4, 2) := by decide +kernel
theorem dX8_weighAll_118 : decode cX8_weighAll 118 = .ok (.lreturn, 1) := by decide +kernel
theorem dX8_quarrels_0 : decode cX8_quarrels 0 = .ok (.aload_n 0, 1) := by decide +kernel
theorem dX8_quarrels_1 : decode cX8_quarrels 1 = .ok (.iload_n 1, 1) := by decide +kernel
theorem dX8_quarrels_2 : decode cX8_quarrels 2 = .ok (.invokevirtual 216, 3) := by decide +kernel
theorem dX8_quarrels_5 : decode cX8_quarrels 5 = .ok (.ifnull 11, 3) := by decide +kernel
theorem dX8_quarrels_8 : decode cX8_quarrels 8 = .ok (.aload_n 0, 1) := by decide +kernel
theorem dX8_quarrels_9 : decode cX8_quarrels 9 = .ok (.iload_n 2, 1) := by decide +kernel
theorem dX8_quarrels_10 : decode cX8_quarrels 10 = .ok (.invokevirtual 216, 3) := by decide +kernel
theorem dX8_quarrels_13 : decode cX8_quarrels 13 = .ok (.ifnonnull 7, 3) := by decide +kernel
theorem dX8_quarrels_16 : decode cX8_quarrels 16 = .ok (.ldc2_w 220, 3) := by decide +kernel
theorem dX8_quarrels_19 : decode cX8_quarrels 19 = .ok (.lreturn, 1) := by decide +kernel
theorem dX8_quarrels_20 : decode cX8_quarrels 20 = .ok (.aload_n 0, 1) := by decide +kernel
theorem dX8_quarrels_21 : decode cX8_quarrels 21 = .ok (.iload_n 1, 1) := by decide +kernel
theorem dX8_quarrels_22 : decode cX8_quarrels 22 = .ok (.iload_n 3, 1) := by decide +kernel
theorem dX8_quarrels_23 : decode cX8_quarrels 23 = .ok (.iload 4, 2) := by decide +kernel
theorem dX8_quarrels_25 : decode cX8_quarrels 25 = .ok (.invokevirtual 222, 3) := by decide +kernel
theorem dX8_quarrels_28 : decode cX8_quarrels 28 = .ok (.lstore 5, 2) := by decide +kernel
theorem dX8_quarrels_30 : decode cX8_quarrels 30 = .ok (.lload 5, 2) := by decide +kernel
theorem dX8_quarrels_32 : decode cX8_quarrels 32 = .ok (.aload_n 0, 1) := by decide +kernel
theorem dX8_quarrels_33 : decode cX8_quarrels 33 = .ok (.iload_n 2, 1) := by decide +kernel
theorem dX8_quarrels_34 : decode cX8_quarrels 34 = .ok (.iload_n 3, 1) := by decide +kernel
theorem dX8_quarrels_35 : decode cX8_quarrels 35 = .ok (.iload 4, 2) := by decide +kernel
theorem dX8_quarrels_37 : decode cX8_quarrels 37 = .ok (.invokevirtual 222, 3) := by decide +kernel
theorem dX8_quarrels_40 : decode cX8_quarrels 40 = .ok (.lsub, 1) := by decide +kernel
theorem dX8_quarrels_41 : decode cX8_quarrels 41 = .ok (.lreturn, 1) := by decide +kernel
theorem dX8_settle_0 : decode cX8_settle 0 = .ok (.iload_n 2, 1) := by decide +kernel
theorem dX8_settle_1 : decode cX8_settle 1 = .ok (.invokestatic 107, 3) := by decide +kernel
theorem dX8_settle_4 : decode cX8_settle 4 = .ok (.ifCond .eq 19, 3) := by decide +kernel
theorem dX8_settle_7 : decode cX8_settle 7 = .ok (.iload_n 3, 1) := by decide +kernel
theorem dX8_settle_8 : decode cX8_settle 8 = .ok (.invokestatic 107, 3) := by decide +kernel
theorem dX8_settle_11 : decode cX8_settle 11 = .ok (.ifCond .eq 12, 3) := by decide +kernel
theorem dX8_settle_14 : decode cX8_settle 14 = .ok (.iload_n 2, 1) := by decide +kernel
theorem dX8_settle_15 : decode cX8_settle 15 = .ok (.iload_n 3, 1) := by decide +kernel
theorem dX8_settle_16 : decode cX8_settle 16 = .ok (.if_icmp .gt 7, 3) := by decide +kernel
theorem dX8_settle_19 : decode cX8_settle 19 = .ok (.iconst 1, 1) := by decide +kernel
theorem dX8_settle_20 : decode cX8_settle 20 = .ok (.goto 4, 3) := by decide +kernel
theorem dX8_settle_23 : decode cX8_settle 23 = .ok (.iconst 0, 1) := by decide +kernel
theorem dX8_settle_24 : decode cX8_settle 24 = .ok (.istore 4, 2) := by decide +kernel
theorem dX8_settle_26 : decode cX8_settle 26 = .ok (.iload 4, 2) := by decide +kernel
theorem dX8_settle_28 : decode cX8_settle 28 = .ok (.ifCond .eq 15, 3) := by decide +kernel
theorem dX8_settle_31 : decode cX8_settle 31 = .ok (.aload_n 0, 1) := by decide +kernel
theorem dX8_settle_32 : decode cX8_settle 32 = .ok (.iconst 4, 1) := by decide +kernel
theorem dX8_settle_33 : decode cX8_settle 33 = .ok (.iload_n 1, 1) := by decide +kernel
theorem dX8_settle_34 : decode cX8_settle 34 = .ok (.iload_n 2, 1) := by decide +kernel
theorem dX8_settle_35 : decode cX8_settle 35 = .ok (.iload_n 3, 1) := by decide +kernel
theorem dX8_settle_36 : decode cX8_settle 36 = .ok (.iconst 0, 1) := by decide +kernel
theorem dX8_settle_37 : decode cX8_settle 37 = .ok (.invokevirtual 95, 3) := by decide +kernel
theorem dX8_settle_40 : decode cX8_settle 40 = .ok (.goto 4, 3) := by decide +kernel
theorem dX8_settle_43 : decode cX8_settle 43 = .ok (.iconst (-1), 1) := by decide +kernel
theorem dX8_settle_44 : decode cX8_settle 44 = .ok (.ireturn, 1) := by decide +kernel
theorem dX8_settles_0 : decode cX8_settles 0 = .ok (.aload_n 0, 1) := by decide +kernel
theorem dX8_settles_1 : decode cX8_settles 1 = .ok (.iload_n 1, 1) := by decide +kernel
theorem dX8_settles_2 : decode cX8_settles 2 = .ok (.invokevirtual 216, 3) := by decide +kernel
theorem dX8_settles_5 : decode cX8_settles 5 = .ok (.ifnull 13, 3) := by decide +kernel
theorem dX8_settles_8 : decode cX8_settles 8 = .ok (.iload_n 2, 1) := by decide +kernel
theorem dX8_settles_9 : decode cX8_settles 9 = .ok (.iconst 0, 1) := by decide +kernel
theorem dX8_settles_10 : decode cX8_settles 10 = .ok (.bipush 10, 2) := by decide +kernel
theorem dX8_settles_12 : decode cX8_settles 12 = .ok (.invokestatic 81, 3) := by decide +kernel
theorem dX8_settles_15 : decode cX8_settles 15 = .ok (.ifCond .ne 7, 3) := by decide +kernel
theorem dX8_settles_18 : decode cX8_settles 18 = .ok (.ldc2_w 200, 3) := by decide +kernel
theorem dX8_settles_21 : decode cX8_settles 21 = .ok (.lreturn, 1) := by decide +kernel
theorem dX8_settles_22 : decode cX8_settles 22 = .ok (.aload_n 0, 1) := by decide +kernel
theorem dX8_settles_23 : decode cX8_settles 23 = .ok (.iload_n 1, 1) := by decide +kernel
theorem dX8_settles_24 : decode cX8_settles 24 = .ok (.iload_n 3, 1) := by decide +kernel
theorem dX8_settles_25 : decode cX8_settles 25 = .ok (.iload 4, 2) := by decide +kernel
theorem dX8_settles_27 : decode cX8_settles 27 = .ok (.invokevirtual 222, 3) := by decide +kernel
theorem dX8_settles_30 : decode cX8_settles 30 = .ok (.pop2, 1) := by decide +kernel
theorem dX8_settles_31 : decode cX8_settles 31 = .ok (.aload_n 0, 1) := by decide +kernel
theorem dX8_settles_32 : decode cX8_settles 32 = .ok (.iload_n 2, 1) := by decide +kernel
theorem dX8_settles_33 : decode cX8_settles 33 = .ok (.invokevirtual 229, 3) := by decide +kernel
theorem dX8_settles_36 : decode cX8_settles 36 = .ok (.pop, 1) := by decide +kernel
theorem dX8_settles_37 : decode cX8_settles 37 = .ok (.aload_n 0, 1) := by decide +kernel
theorem dX8_settles_38 : decode cX8_settles 38 = .ok (.getfield 232, 3) := by decide +kernel
theorem dX8_settles_41 : decode cX8_settles 41 = .ok (.lreturn, 1) := by decide +kernel
theorem dX8_span_0 : decode cX8_span 0 = .ok (.aload_n 0, 1) := by decide +kernel
theorem dX8_span_1 : decode cX8_span 1 = .ok (.iload_n 1, 1) := by decide +kernel
theorem dX8_span_2 : decode cX8_span 2 = .ok (.invokevirtual 99, 3) := by decide +kernel
theorem dX8_span_5 : decode cX8_span 5 = .ok (.astore 5, 2) := by decide +kernel
theorem dX8_span_7 : decode cX8_span 7 = .ok (.aload 5, 2) := by decide +kernel
theorem dX8_span_9 : decode cX8_span 9 = .ok (.ifnull 10, 3) := by decide +kernel
theorem dX8_span_12 : decode cX8_span 12 = .ok (.iload_n 2, 1) := by decide +kernel
theorem dX8_span_13 : decode cX8_span 13 = .ok (.invokestatic 91, 3) := by decide +kernel
theorem dX8_span_16 : decode cX8_span 16 = .ok (.ifCond .ne 5, 3) := by decide +kernel
theorem dX8_span_19 : decode cX8_span 19 = .ok (.iconst (-1), 1) := by decide +kernel
theorem dX8_span_20 : decode cX8_span 20 = .ok (.ireturn, 1) := by decide +kernel
theorem dX8_span_21 : decode cX8_span 21 = .ok (.aload 5, 2) := by decide +kernel
theorem dX8_span_23 : decode cX8_span 23 = .ok (.iload 4, 2) := by decide +kernel
theorem dX8_span_25 : decode cX8_span 25 = .ok (.aload_n 0, 1) := by decide +kernel
theorem dX8_span_26 : decode cX8_span 26 = .ok (.getfield 37, 3) := by decide +kernel
theorem dX8_span_29 : decode cX8_span 29 = .ok (.invokevirtual 142, 3) := by decide +kernel
theorem dX8_span_32 : decode cX8_span 32 = .ok (.iload_n 3, 1) := by decide +kernel
theorem dX8_span_33 : decode cX8_span 33 = .ok (.ifCond .eq 11, 3) := by decide +kernel
theorem dX8_span_36 : decode cX8_span 36 = .ok (.aload 5, 2) := by decide +kernel
theorem dX8_span_38 : decode cX8_span 38 = .ok (.getfield 146, 3) := by decide +kernel
theorem dX8_span_41 : decode cX8_span 41 = .ok (.goto 8, 3) := by decide +kernel
theorem dX8_span_44 : decode cX8_span 44 = .ok (.aload 5, 2) := by decide +kernel
theorem dX8_span_46 : decode cX8_span 46 = .ok (.getfield 149, 3) := by decide +kernel
theorem dX8_span_49 : decode cX8_span 49 = .ok (.iload_n 2, 1) := by decide +kernel
theorem dX8_span_50 : decode cX8_span 50 = .ok (.invokestatic 152, 3) := by decide +kernel
theorem dX8_span_53 : decode cX8_span 53 = .ok (.ireturn, 1) := by decide +kernel
theorem dX8_tests_0 : decode cX8_tests 0 = .ok (.aload_n 0, 1) := by decide +kernel
theorem dX8_tests_1 : decode cX8_tests 1 = .ok (.iload_n 1, 1) := by decide +kernel
theorem dX8_tests_2 : decode cX8_tests 2 = .ok (.invokevirtual 216, 3) := by decide +kernel
theorem dX8_tests_5 : decode cX8_tests 5 = .ok (.ifnull 13, 3) := by decide +kernel
theorem dX8_tests_8 : decode cX8_tests 8 = .ok (.iload_n 2, 1) := by decide +kernel
theorem dX8_tests_9 : decode cX8_tests 9 = .ok (.iconst 0, 1) := by decide +kernel
theorem dX8_tests_10 : decode cX8_tests 10 = .ok (.bipush 10, 2) := by decide +kernel
theorem dX8_tests_12 : decode cX8_tests 12 = .ok (.invokestatic 81, 3) := by decide +kernel
theorem dX8_tests_15 : decode cX8_tests 15 = .ok (.ifCond .ne 5, 3) := by decide +kernel
theorem dX8_tests_18 : decode cX8_tests 18 = .ok (.iconst (-1), 1) := by decide +kernel
theorem dX8_tests_19 : decode cX8_tests 19 = .ok (.ireturn, 1) := by decide +kernel
theorem dX8_tests_20 : decode cX8_tests 20 = .ok (.aload_n 0, 1) := by decide +kernel
theorem dX8_tests_21 : decode cX8_tests 21 = .ok (.iload_n 1, 1) := by decide +kernel
theorem dX8_tests_22 : decode cX8_tests 22 = .ok (.iload_n 3, 1) := by decide +kernel
theorem dX8_tests_23 : decode cX8_tests 23 = .ok (.iload 4, 2) := by decide +kernel
theorem dX8_tests_25 : decode cX8_tests 25 = .ok (.invokevirtual 222, 3) := by decide +kernel
theorem dX8_tests_28 : decode cX8_tests 28 = .ok (.pop2, 1) := by decide +kernel
theorem dX8_tests_29 : decode cX8_tests 29 = .ok (.aload_n 0, 1) := by decide +kernel
theorem dX8_tests_30 : decode cX8_tests 30 = .ok (.iload_n 2, 1) := by decide +kernel
theorem dX8_tests_31 : decode cX8_tests 31 = .ok (.invokevirtual 229, 3) := by decide +kernel
theorem dX8_tests_34 : decode cX8_tests 34 = .ok (.ireturn, 1) := by decide +kernel
theorem dX8_untell_0 : decode cX8_untell 0 = .ok (.aload_n 0, 1) := by decide +kernel
theorem dX8_untell_1 : decode cX8_untell 1 = .ok (.iload_n 1, 1) := by decide +kernel
theorem dX8_untell_2 : decode cX8_untell 2 = .ok (.invokevirtual 130, 3) := by decide +kernel
theorem dX8_untell_5 : decode cX8_untell 5 = .ok (.astore_n 2, 1) := by decide +kernel
theorem dX8_untell_6 : decode cX8_untell 6 = .ok (.aload_n 2, 1) := by decide +kernel
theorem dX8_untell_7 : decode cX8_untell 7 = .ok (.ifnull 11, 3) := by decide +kernel
theorem dX8_untell_10 : decode cX8_untell 10 = .ok (.aload_n 2, 1) := by decide +kernel
theorem dX8_untell_11 : decode cX8_untell 11 = .ok (.getfield 134, 3) := by decide +kernel
theorem dX8_untell_14 : decode cX8_untell 14 = .ok (.iconst (-1), 1) := by decide +kernel
theorem dX8_untell_15 : decode cX8_untell 15 = .ok (.if_icmp .eq 5, 3) := by decide +kernel
theorem dX8_untell_18 : decode cX8_untell 18 = .ok (.iconst 0, 1) := by decide +kernel
theorem dX8_untell_19 : decode cX8_untell 19 = .ok (.ireturn, 1) := by decide +kernel
theorem dX8_untell_20 : decode cX8_untell 20 = .ok (.aload_n 2, 1) := by decide +kernel
theorem dX8_untell_21 : decode cX8_untell 21 = .ok (.aload_n 0, 1) := by decide +kernel
theorem dX8_untell_22 : decode cX8_untell 22 = .ok (.getfield 114, 3) := by decide +kernel
theorem dX8_untell_25 : decode cX8_untell 25 = .ok (.putfield 134, 3) := by decide +kernel
theorem dX8_untell_28 : decode cX8_untell 28 = .ok (.aload_n 0, 1) := by decide +kernel
theorem dX8_untell_29 : decode cX8_untell 29 = .ok (.aload_n 2, 1) := by decide +kernel
theorem dX8_untell_30 : decode cX8_untell 30 = .ok (.getfield 120, 3) := by decide +kernel
theorem dX8_untell_33 : decode cX8_untell 33 = .ok (.invokevirtual 99, 3) := by decide +kernel
theorem dX8_untell_36 : decode cX8_untell 36 = .ok (.astore_n 3, 1) := by decide +kernel
theorem dX8_untell_37 : decode cX8_untell 37 = .ok (.aload_n 3, 1) := by decide +kernel
theorem dX8_untell_38 : decode cX8_untell 38 = .ok (.ifnull 8, 3) := by decide +kernel
theorem dX8_untell_41 : decode cX8_untell 41 = .ok (.aload_n 3, 1) := by decide +kernel
theorem dX8_untell_42 : decode cX8_untell 42 = .ok (.iconst 0, 1) := by decide +kernel
theorem dX8_untell_43 : decode cX8_untell 43 = .ok (.putfield 137, 3) := by decide +kernel
theorem dX8_untell_46 : decode cX8_untell 46 = .ok (.iconst 1, 1) := by decide +kernel
theorem dX8_untell_47 : decode cX8_untell 47 = .ok (.ireturn, 1) := by decide +kernel
theorem dX8_weeks_0 : decode cX8_weeks 0 = .ok (.aload_n 0, 1) := by decide +kernel
theorem dX8_weeks_1 : decode cX8_weeks 1 = .ok (.iconst 3, 1) := by decide +kernel
theorem dX8_weeks_2 : decode cX8_weeks 2 = .ok (.iload_n 2, 1) := by decide +kernel
theorem dX8_weeks_3 : decode cX8_weeks 3 = .ok (.invokevirtual 170, 3) := by decide +kernel
theorem dX8_weeks_6 : decode cX8_weeks 6 = .ok (.astore 5, 2) := by decide +kernel
theorem dX8_weeks_8 : decode cX8_weeks 8 = .ok (.aload 5, 2) := by decide +kernel
theorem dX8_weeks_10 : decode cX8_weeks 10 = .ok (.ifnull 19, 3) := by decide +kernel
theorem dX8_weeks_13 : decode cX8_weeks 13 = .ok (.aload_n 0, 1) := by decide +kernel
theorem dX8_weeks_14 : decode cX8_weeks 14 = .ok (.iload_n 1, 1) := by decide +kernel
theorem dX8_weeks_15 : decode cX8_weeks 15 = .ok (.aload 5, 2) := by decide +kernel
theorem dX8_weeks_17 : decode cX8_weeks 17 = .ok (.getfield 120, 3) := by decide +kernel
theorem dX8_weeks_20 : decode cX8_weeks 20 = .ok (.iload_n 3, 1) := by decide +kernel
theorem dX8_weeks_21 : decode cX8_weeks 21 = .ok (.iload 4, 2) := by decide +kernel
theorem dX8_weeks_23 : decode cX8_weeks 23 = .ok (.invokevirtual 159, 3) := by decide +kernel
theorem dX8_weeks_26 : decode cX8_weeks 26 = .ok (.ifCond .ne 5, 3) := by decide +kernel
theorem dX8_weeks_29 : decode cX8_weeks 29 = .ok (.iconst (-1), 1) := by decide +kernel
theorem dX8_weeks_30 : decode cX8_weeks 30 = .ok (.ireturn, 1) := by decide +kernel
theorem dX8_weeks_31 : decode cX8_weeks 31 = .ok (.aload_n 0, 1) := by decide +kernel
theorem dX8_weeks_32 : decode cX8_weeks 32 = .ok (.getfield 44, 3) := by decide +kernel
theorem dX8_weeks_35 : decode cX8_weeks 35 = .ok (.aload 5, 2) := by decide +kernel
theorem dX8_weeks_37 : decode cX8_weeks 37 = .ok (.getfield 174, 3) := by decide +kernel
theorem dX8_weeks_40 : decode cX8_weeks 40 = .ok (.invokevirtual 177, 3) := by decide +kernel
theorem dX8_weeks_43 : decode cX8_weeks 43 = .ok (.pop, 1) := by decide +kernel
theorem dX8_weeks_44 : decode cX8_weeks 44 = .ok (.aload_n 0, 1) := by decide +kernel
theorem dX8_weeks_45 : decode cX8_weeks 45 = .ok (.getfield 44, 3) := by decide +kernel
theorem dX8_weeks_48 : decode cX8_weeks 48 = .ok (.getfield 180, 3) := by decide +kernel
theorem dX8_weeks_51 : decode cX8_weeks 51 = .ok (.ireturn, 1) := by decide +kernel
theorem dX8_worker_0 : decode cX8_worker 0 = .ok (.iload_n 1, 1) := by decide +kernel
theorem dX8_worker_1 : decode cX8_worker 1 = .ok (.iconst 0, 1) := by decide +kernel
theorem dX8_worker_2 : decode cX8_worker 2 = .ok (.bipush 9, 2) := by decide +kernel
theorem dX8_worker_4 : decode cX8_worker 4 = .ok (.invokestatic 81, 3) := by decide +kernel
theorem dX8_worker_7 : decode cX8_worker 7 = .ok (.ifCond .eq 22, 3) := by decide +kernel
theorem dX8_worker_10 : decode cX8_worker 10 = .ok (.aload_n 0, 1) := by decide +kernel
theorem dX8_worker_11 : decode cX8_worker 11 = .ok (.getfield 85, 3) := by decide +kernel
theorem dX8_worker_14 : decode cX8_worker 14 = .ok (.ifCond .lt 15, 3) := by decide +kernel
theorem dX8_worker_17 : decode cX8_worker 17 = .ok (.aload_n 0, 1) := by decide +kernel
theorem dX8_worker_18 : decode cX8_worker 18 = .ok (.getfield 85, 3) := by decide +kernel
theorem dX8_worker_21 : decode cX8_worker 21 = .ok (.aload_n 0, 1) := by decide +kernel
theorem dX8_worker_22 : decode cX8_worker 22 = .ok (.getfield 24, 3) := by decide +kernel
theorem dX8_worker_25 : decode cX8_worker 25 = .ok (.arraylength, 1) := by decide +kernel
theorem dX8_worker_26 : decode cX8_worker 26 = .ok (.if_icmp .lt 5, 3) := by decide +kernel
theorem dX8_worker_29 : decode cX8_worker 29 = .ok (.iconst (-1), 1) := by decide +kernel
theorem dX8_worker_30 : decode cX8_worker 30 = .ok (.ireturn, 1) := by decide +kernel
theorem dX8_worker_31 : decode cX8_worker 31 = .ok (.aload_n 0, 1) := by decide +kernel
theorem dX8_worker_32 : decode cX8_worker 32 = .ok (.getfield 24, 3) := by decide +kernel
theorem dX8_worker_35 : decode cX8_worker 35 = .ok (.aload_n 0, 1) := by decide +kernel
theorem dX8_worker_36 : decode cX8_worker 36 = .ok (.getfield 85, 3) := by decide +kernel
theorem dX8_worker_39 : decode cX8_worker 39 = .ok (.new 22, 3) := by decide +kernel
theorem dX8_worker_42 : decode cX8_worker 42 = .ok (.dup, 1) := by decide +kernel
theorem dX8_worker_43 : decode cX8_worker 43 = .ok (.iload_n 1, 1) := by decide +kernel
theorem dX8_worker_44 : decode cX8_worker 44 = .ok (.iload_n 2, 1) := by decide +kernel
theorem dX8_worker_45 : decode cX8_worker 45 = .ok (.invokespecial 88, 3) := by decide +kernel
theorem dX8_worker_48 : decode cX8_worker 48 = .ok (.aastore, 1) := by decide +kernel
theorem dX8_worker_49 : decode cX8_worker 49 = .ok (.aload_n 0, 1) := by decide +kernel
theorem dX8_worker_50 : decode cX8_worker 50 = .ok (.dup, 1) := by decide +kernel
theorem dX8_worker_51 : decode cX8_worker 51 = .ok (.getfield 85, 3) := by decide +kernel
theorem dX8_worker_54 : decode cX8_worker 54 = .ok (.iconst 1, 1) := by decide +kernel
theorem dX8_worker_55 : decode cX8_worker 55 = .ok (.iadd, 1) := by decide +kernel
theorem dX8_worker_56 : decode cX8_worker 56 = .ok (.putfield 85, 3) := by decide +kernel
theorem dX8_worker_59 : decode cX8_worker 59 = .ok (.aload_n 0, 1) := by decide +kernel
theorem dX8_worker_60 : decode cX8_worker 60 = .ok (.getfield 85, 3) := by decide +kernel
theorem dX8_worker_63 : decode cX8_worker 63 = .ok (.iconst 1, 1) := by decide +kernel
theorem dX8_worker_64 : decode cX8_worker 64 = .ok (.isub, 1) := by decide +kernel
theorem dX8_worker_65 : decode cX8_worker 65 = .ok (.ireturn, 1) := by decide +kernel
theorem dX9_about_0 : decode cX9_about 0 = .ok (.iload_n 1, 1) := by decide +kernel
theorem dX9_about_1 : decode cX9_about 1 = .ok (.tableswitch 51 0 3 #[31, 36, 41, 46], 31) := by decide +kernel
theorem dX9_about_32 : decode cX9_about 32 = .ok (.aload_n 0, 1) := by decide +kernel
theorem dX9_about_33 : decode cX9_about 33 = .ok (.getfield 337, 3) := by decide +kernel
theorem dX9_about_36 : decode cX9_about 36 = .ok (.ireturn, 1) := by decide +kernel
theorem dX9_about_37 : decode cX9_about 37 = .ok (.aload_n 0, 1) := by decide +kernel
theorem dX9_about_38 : decode cX9_about 38 = .ok (.getfield 340, 3) := by decide +kernel
theorem dX9_about_41 : decode cX9_about 41 = .ok (.ireturn, 1) := by decide +kernel
theorem dX9_about_42 : decode cX9_about 42 = .ok (.aload_n 0, 1) := by decide +kernel
theorem dX9_about_43 : decode cX9_about 43 = .ok (.getfield 343, 3) := by decide +kernel
theorem dX9_about_46 : decode cX9_about 46 = .ok (.ireturn, 1) := by decide +kernel
theorem dX9_about_47 : decode cX9_about 47 = .ok (.aload_n 0, 1) := by decide +kernel
theorem dX9_about_48 : decode cX9_about 48 = .ok (.getfield 203, 3) := by decide +kernel
theorem dX9_about_51 : decode cX9_about 51 = .ok (.ireturn, 1) := by decide +kernel
theorem dX9_about_52 : decode cX9_about 52 = .ok (.iload_n 1, 1) := by decide +kernel
theorem dX9_about_53 : decode cX9_about 53 = .ok (.bipush 10, 2) := by decide +kernel
theorem dX9_about_55 : decode cX9_about 55 = .ok (.if_icmp .lt 21, 3) := by decide +kernel
theorem dX9_about_58 : decode cX9_about 58 = .ok (.iload_n 1, 1) := by decide +kernel
theorem dX9_about_59 : decode cX9_about 59 = .ok (.bipush 14, 2) := by decide +kernel
theorem dX9_about_61 : decode cX9_about 61 = .ok (.if_icmp .ge 15, 3) := by decide +kernel
theorem dX9_about_64 : decode cX9_about 64 = .ok (.aload_n 0, 1) := by decide +kernel
theorem dX9_about_65 : decode cX9_about 65 = .ok (.getfield 73, 3) := by decide +kernel
theorem dX9_about_68 : decode cX9_about 68 = .ok (.iload_n 1, 1) := by decide +kernel
theorem dX9_about_69 : decode cX9_about 69 = .ok (.bipush 10, 2) := by decide +kernel
theorem dX9_about_71 : decode cX9_about 71 = .ok (.isub, 1) := by decide +kernel
theorem dX9_about_72 : decode cX9_about 72 = .ok (.iaload, 1) := by decide +kernel
theorem dX9_about_73 : decode cX9_about 73 = .ok (.goto 4, 3) := by decide +kernel
theorem dX9_about_76 : decode cX9_about 76 = .ok (.iconst (-1), 1) := by decide +kernel
theorem dX9_about_77 : decode cX9_about 77 = .ok (.ireturn, 1) := by decide +kernel
theorem dX9_isShelf_0 : decode cX9_isShelf 0 = .ok (.iload_n 0, 1) := by decide +kernel
theorem dX9_isShelf_1 : decode cX9_isShelf 1 = .ok (.ifCond .lt 12, 3) := by decide +kernel
theorem dX9_isShelf_4 : decode cX9_isShelf 4 = .ok (.iload_n 0, 1) := by decide +kernel
theorem dX9_isShelf_5 : decode cX9_isShelf 5 = .ok (.iconst 4, 1) := by decide +kernel
theorem dX9_isShelf_6 : decode cX9_isShelf 6 = .ok (.if_icmp .ge 7, 3) := by decide +kernel
theorem dX9_isShelf_9 : decode cX9_isShelf 9 = .ok (.iconst 1, 1) := by decide +kernel
theorem dX9_isShelf_10 : decode cX9_isShelf 10 = .ok (.goto 4, 3) := by decide +kernel
theorem dX9_isShelf_13 : decode cX9_isShelf 13 = .ok (.iconst 0, 1) := by decide +kernel
theorem dX9_isShelf_14 : decode cX9_isShelf 14 = .ok (.ireturn, 1) := by decide +kernel
theorem dX9_plain_0 : decode cX9_plain 0 = .ok (.iload_n 0, 1) := by decide +kernel
theorem dX9_plain_1 : decode cX9_plain 1 = .ok (.ifCond .ne 8, 3) := by decide +kernel
theorem dX9_plain_4 : decode cX9_plain 4 = .ok (.bipush 12, 2) := by decide +kernel
theorem dX9_plain_6 : decode cX9_plain 6 = .ok (.goto 49, 3) := by decide +kernel
theorem dX9_plain_9 : decode cX9_plain 9 = .ok (.iload_n 0, 1) := by decide +kernel
theorem dX9_plain_10 : decode cX9_plain 10 = .ok (.iconst 1, 1) := by decide +kernel
theorem dX9_plain_11 : decode cX9_plain 11 = .ok (.if_icmp .ne 8, 3) := by decide +kernel
theorem dX9_plain_14 : decode cX9_plain 14 = .ok (.bipush 104, 2) := by decide +kernel
theorem dX9_plain_16 : decode cX9_plain 16 = .ok (.goto 39, 3) := by decide +kernel
theorem dX9_plain_19 : decode cX9_plain 19 = .ok (.iload_n 0, 1) := by decide +kernel
theorem dX9_plain_20 : decode cX9_plain 20 = .ok (.iconst 2, 1) := by decide +kernel
theorem dX9_plain_21 : decode cX9_plain 21 = .ok (.if_icmp .ne 7, 3) := by decide +kernel
theorem dX9_plain_24 : decode cX9_plain 24 = .ok (.iconst 5, 1) := by decide +kernel
theorem dX9_plain_25 : decode cX9_plain 25 = .ok (.goto 30, 3) := by decide +kernel
theorem dX9_plain_28 : decode cX9_plain 28 = .ok (.iload_n 0, 1) := by decide +kernel
theorem dX9_plain_29 : decode cX9_plain 29 = .ok (.iconst 3, 1) := by decide +kernel
theorem dX9_plain_30 : decode cX9_plain 30 = .ok (.if_icmp .eq 8, 3) := by decide +kernel
theorem dX9_plain_33 : decode cX9_plain 33 = .ok (.iload_n 0, 1) := by decide +kernel
theorem dX9_plain_34 : decode cX9_plain 34 = .ok (.iconst 4, 1) := by decide +kernel
theorem dX9_plain_35 : decode cX9_plain 35 = .ok (.if_icmp .ne 8, 3) := by decide +kernel
theorem dX9_plain_38 : decode cX9_plain 38 = .ok (.bipush 90, 2) := by decide +kernel
theorem dX9_plain_40 : decode cX9_plain 40 = .ok (.goto 15, 3) := by decide +kernel
theorem dX9_plain_43 : decode cX9_plain 43 = .ok (.iload_n 0, 1) := by decide +kernel
theorem dX9_plain_44 : decode cX9_plain 44 = .ok (.iconst 5, 1) := by decide +kernel
theorem dX9_plain_45 : decode cX9_plain 45 = .ok (.if_icmp .ne 9, 3) := by decide +kernel
theorem dX9_plain_48 : decode cX9_plain 48 = .ok (.sipush 9999, 3) := by decide +kernel
theorem dX9_plain_51 : decode cX9_plain 51 = .ok (.goto 4, 3) := by decide +kernel
theorem dX9_plain_54 : decode cX9_plain 54 = .ok (.iconst 0, 1) := by decide +kernel
theorem dX9_plain_55 : decode cX9_plain 55 = .ok (.ireturn, 1) := by decide +kernel
theorem dX9_clear_0 : decode cX9_clear 0 = .ok (.iconst 0, 1) := by decide +kernel
theorem dX9_clear_1 : decode cX9_clear 1 = .ok (.istore_n 2, 1) := by decide +kernel
theorem dX9_clear_2 : decode cX9_clear 2 = .ok (.iload_n 2, 1) := by decide +kernel
theorem dX9_clear_3 : decode cX9_clear 3 = .ok (.bipush 7, 2) := by decide +kernel
theorem dX9_clear_5 : decode cX9_clear 5 = .ok (.if_icmp .ge 36, 3) := by decide +kernel
theorem dX9_clear_8 : decode cX9_clear 8 = .ok (.aload_n 0, 1) := by decide +kernel
theorem dX9_clear_9 : decode cX9_clear 9 = .ok (.getfield 62, 3) := by decide +kernel
theorem dX9_clear_12 : decode cX9_clear 12 = .ok (.bipush 7, 2) := by decide +kernel
theorem dX9_clear_14 : decode cX9_clear 14 = .ok (.iload_n 1, 1) := by decide +kernel
theorem dX9_clear_15 : decode cX9_clear 15 = .ok (.imul, 1) := by decide +kernel
theorem dX9_clear_16 : decode cX9_clear 16 = .ok (.iload_n 2, 1) := by decide +kernel
theorem dX9_clear_17 : decode cX9_clear 17 = .ok (.iadd, 1) := by decide +kernel
theorem dX9_clear_18 : decode cX9_clear 18 = .ok (.iload_n 2, 1) := by decide +kernel
theorem dX9_clear_19 : decode cX9_clear 19 = .ok (.invokestatic 66, 3) := by decide +kernel
theorem dX9_clear_22 : decode cX9_clear 22 = .ok (.iastore, 1) := by decide +kernel
theorem dX9_clear_23 : decode cX9_clear 23 = .ok (.aload_n 0, 1) := by decide +kernel
theorem dX9_clear_24 : decode cX9_clear 24 = .ok (.getfield 69, 3) := by decide +kernel
theorem dX9_clear_27 : decode cX9_clear 27 = .ok (.bipush 7, 2) := by decide +kernel
theorem dX9_clear_29 : decode cX9_clear 29 = .ok (.iload_n 1, 1) := by decide +kernel
theorem dX9_clear_30 : decode cX9_clear 30 = .ok (.imul, 1) := by decide +kernel
theorem dX9_clear_31 : decode cX9_clear 31 = .ok (.iload_n 2, 1) := by decide +kernel
theorem dX9_clear_32 : decode cX9_clear 32 = .ok (.iadd, 1) := by decide +kernel
theorem dX9_clear_33 : decode cX9_clear 33 = .ok (.iconst 0, 1) := by decide +kernel
theorem dX9_clear_34 : decode cX9_clear 34 = .ok (.bastore, 1) := by decide +kernel
theorem dX9_clear_35 : decode cX9_clear 35 = .ok (.iinc 2 1, 3) := by decide +kernel
theorem dX9_clear_38 : decode cX9_clear 38 = .ok (.goto (-36), 3) := by decide +kernel
theorem dX9_clear_41 : decode cX9_clear 41 = .ok (.aload_n 0, 1) := by decide +kernel
theorem dX9_clear_42 : decode cX9_clear 42 = .ok (.getfield 73, 3) := by decide +kernel
theorem dX9_clear_45 : decode cX9_clear 45 = .ok (.iload_n 1, 1) := by decide +kernel
theorem dX9_clear_46 : decode cX9_clear 46 = .ok (.iconst 0, 1) := by decide +kernel
theorem dX9_clear_47 : decode cX9_clear 47 = .ok (.iastore, 1) := by decide +kernel
theorem dX9_clear_48 : decode cX9_clear 48 = .ok (.aload_n 0, 1) := by decide +kernel
theorem dX9_clear_49 : decode cX9_clear 49 = .ok (.getfield 76, 3) := by decide +kernel
theorem dX9_clear_52 : decode cX9_clear 52 = .ok (.iload_n 1, 1) := by decide +kernel
theorem dX9_clear_53 : decode cX9_clear 53 = .ok (.iconst 0, 1) := by decide +kernel
theorem dX9_clear_54 : decode cX9_clear 54 = .ok (.iastore, 1) := by decide +kernel
theorem dX9_clear_55 : decode cX9_clear 55 = .ok (.aload_n 0, 1) := by decide +kernel
theorem dX9_clear_56 : decode cX9_clear 56 = .ok (.getfield 79, 3) := by decide +kernel
theorem dX9_clear_59 : decode cX9_clear 59 = .ok (.iload_n 1, 1) := by decide +kernel
theorem dX9_clear_60 : decode cX9_clear 60 = .ok (.iconst 0, 1) := by decide +kernel
theorem dX9_clear_61 : decode cX9_clear 61 = .ok (.bastore, 1) := by decide +kernel
theorem dX9_clear_62 : decode cX9_clear 62 = .ok (.return_, 1) := by decide +kernel
theorem dX9_sign_0 : decode cX9_sign 0 = .ok (.iload_n 1, 1) := by decide +kernel
theorem dX9_sign_1 : decode cX9_sign 1 = .ok (.aload_n 0, 1) := by decide +kernel
theorem dX9_sign_2 : decode cX9_sign 2 = .ok (.getfield 1, 3) := by decide +kernel
theorem dX9_sign_5 : decode cX9_sign 5 = .ok (.if_icmp .ge 16, 3) := by decide +kernel
theorem dX9_sign_8 : decode cX9_sign 8 = .ok (.aload_n 0, 1) := by decide +kernel
theorem dX9_sign_9 : decode cX9_sign 9 = .ok (.getfield 7, 3) := by decide +kernel
theorem dX9_sign_12 : decode cX9_sign 12 = .ok (.iload_n 1, 1) := by decide +kernel
theorem dX9_sign_13 : decode cX9_sign 13 = .ok (.baload, 1) := by decide +kernel
theorem dX9_sign_14 : decode cX9_sign 14 = .ok (.sipush 255, 3) := by decide +kernel
theorem dX9_sign_17 : decode cX9_sign 17 = .ok (.iand, 1) := by decide +kernel
theorem dX9_sign_18 : decode cX9_sign 18 = .ok (.goto 4, 3) := by decide +kernel
theorem dX9_sign_21 : decode cX9_sign 21 = .ok (.iconst 0, 1) := by decide +kernel
theorem dX9_sign_22 : decode cX9_sign 22 = .ok (.ireturn, 1) := by decide +kernel
theorem dX9_isLetter_0 : decode cX9_isLetter 0 = .ok (.iload_n 0, 1) := by decide +kernel
theorem dX9_isLetter_1 : decode cX9_isLetter 1 = .ok (.bipush 97, 2) := by decide +kernel
theorem dX9_isLetter_3 : decode cX9_isLetter 3 = .ok (.if_icmp .lt 13, 3) := by decide +kernel
theorem dX9_isLetter_6 : decode cX9_isLetter 6 = .ok (.iload_n 0, 1) := by decide +kernel
theorem dX9_isLetter_7 : decode cX9_isLetter 7 = .ok (.bipush 122, 2) := by decide +kernel
theorem dX9_isLetter_9 : decode cX9_isLetter 9 = .ok (.if_icmp .gt 7, 3) := by decide +kernel
theorem dX9_isLetter_12 : decode cX9_isLetter 12 = .ok (.iconst 1, 1) := by decide +kernel
theorem dX9_isLetter_13 : decode cX9_isLetter 13 = .ok (.goto 4, 3) := by decide +kernel
theorem dX9_isLetter_16 : decode cX9_isLetter 16 = .ok (.iconst 0, 1) := by decide +kernel
theorem dX9_isLetter_17 : decode cX9_isLetter 17 = .ok (.ireturn, 1) := by decide +kernel
theorem dX9_isDigit_0 : decode cX9_isDigit 0 = .ok (.iload_n 0, 1) := by decide +kernel
theorem dX9_isDigit_1 : decode cX9_isDigit 1 = .ok (.bipush 48, 2) := by decide +kernel
theorem dX9_isDigit_3 : decode cX9_isDigit 3 = .ok (.if_icmp .lt 13, 3) := by decide +kernel
theorem dX9_isDigit_6 : decode cX9_isDigit 6 = .ok (.iload_n 0, 1) := by decide +kernel
theorem dX9_isDigit_7 : decode cX9_isDigit 7 = .ok (.bipush 57, 2) := by decide +kernel
theorem dX9_isDigit_9 : decode cX9_isDigit 9 = .ok (.if_icmp .gt 7, 3) := by decide +kernel
theorem dX9_isDigit_12 : decode cX9_isDigit 12 = .ok (.iconst 1, 1) := by decide +kernel
theorem dX9_isDigit_13 : decode cX9_isDigit 13 = .ok (.goto 4, 3) := by decide +kernel
theorem dX9_isDigit_16 : decode cX9_isDigit 16 = .ok (.iconst 0, 1) := by decide +kernel
theorem dX9_isDigit_17 : decode cX9_isDigit 17 = .ok (.ireturn, 1) := by decide +kernel
theorem dX9_isSign_0 : decode cX9_isSign 0 = .ok (.iload_n 0, 1) := by decide +kernel
theorem dX9_isSign_1 : decode cX9_isSign 1 = .ok (.bipush 59, 2) := by decide +kernel
theorem dX9_isSign_3 : decode cX9_isSign 3 = .ok (.if_icmp .eq 57, 3) := by decide +kernel
theorem dX9_isSign_6 : decode cX9_isSign 6 = .ok (.iload_n 0, 1) := by decide +kernel
theorem dX9_isSign_7 : decode cX9_isSign 7 = .ok (.bipush 40, 2) := by decide +kernel
theorem dX9_isSign_9 : decode cX9_isSign 9 = .ok (.if_icmp .eq 51, 3) := by decide +kernel
theorem dX9_isSign_12 : decode cX9_isSign 12 = .ok (.iload_n 0, 1) := by decide +kernel
theorem dX9_isSign_13 : decode cX9_isSign 13 = .ok (.bipush 41, 2) := by decide +kernel
theorem dX9_isSign_15 : decode cX9_isSign 15 = .ok (.if_icmp .eq 45, 3) := by decide +kernel
theorem dX9_isSign_18 : decode cX9_isSign 18 = .ok (.iload_n 0, 1) := by decide +kernel
theorem dX9_isSign_19 : decode cX9_isSign 19 = .ok (.bipush 60, 2) := by decide +kernel
theorem dX9_isSign_21 : decode cX9_isSign 21 = .ok (.if_icmp .eq 39, 3) := by decide +kernel
theorem dX9_isSign_24 : decode cX9_isSign 24 = .ok (.iload_n 0, 1) := by decide +kernel
theorem dX9_isSign_25 : decode cX9_isSign 25 = .ok (.bipush 62, 2) := by decide +kernel
theorem dX9_isSign_27 : decode cX9_isSign 27 = .ok (.if_icmp .eq 33, 3) := by decide +kernel
theorem dX9_isSign_30 : decode cX9_isSign 30 = .ok (.iload_n 0, 1) := by decide +kernel
theorem dX9_isSign_31 : decode cX9_isSign 31 = .ok (.bipush 61, 2) := by decide +kernel
theorem dX9_isSign_33 : decode cX9_isSign 33 = .ok (.if_icmp .eq 27, 3) := by decide +kernel
theorem dX9_isSign_36 : decode cX9_isSign 36 = .ok (.iload_n 0, 1) := by decide +kernel
theorem dX9_isSign_37 : decode cX9_isSign 37 = .ok (.bipush 43, 2) := by decide +kernel
theorem dX9_isSign_39 : decode cX9_isSign 39 = .ok (.if_icmp .eq 21, 3) := by decide +kernel
theorem dX9_isSign_42 : decode cX9_isSign 42 = .ok (.iload_n 0, 1) := by decide +kernel
theorem dX9_isSign_43 : decode cX9_isSign 43 = .ok (.bipush 45, 2) := by decide +kernel
theorem dX9_isSign_45 : decode cX9_isSign 45 = .ok (.if_icmp .eq 15, 3) := by decide +kernel
theorem dX9_isSign_48 : decode cX9_isSign 48 = .ok (.iload_n 0, 1) := by decide +kernel
theorem dX9_isSign_49 : decode cX9_isSign 49 = .ok (.bipush 42, 2) := by decide +kernel
theorem dX9_isSign_51 : decode cX9_isSign 51 = .ok (.if_icmp .eq 9, 3) := by decide +kernel
theorem dX9_isSign_54 : decode cX9_isSign 54 = .ok (.iload_n 0, 1) := by decide +kernel
theorem dX9_isSign_55 : decode cX9_isSign 55 = .ok (.bipush 47, 2) := by decide +kernel
theorem dX9_isSign_57 : decode cX9_isSign 57 = .ok (.if_icmp .ne 7, 3) := by decide +kernel
theorem dX9_isSign_60 : decode cX9_isSign 60 = .ok (.iconst 1, 1) := by decide +kernel
theorem dX9_isSign_61 : decode cX9_isSign 61 = .ok (.goto 4, 3) := by decide +kernel
theorem dX9_isSign_64 : decode cX9_isSign 64 = .ok (.iconst 0, 1) := by decide +kernel
theorem dX9_isSign_65 : decode cX9_isSign 65 = .ok (.ireturn, 1) := by decide +kernel
theorem dX9_next_0 : decode cX9_next 0 = .ok (.aload_n 0, 1) := by decide +kernel
theorem dX9_next_1 : decode cX9_next 1 = .ok (.aload_n 0, 1) := by decide +kernel
theorem dX9_next_2 : decode cX9_next 2 = .ok (.getfield 17, 3) := by decide +kernel
theorem dX9_next_5 : decode cX9_next 5 = .ok (.putfield 20, 3) := by decide +kernel
theorem dX9_next_8 : decode cX9_next 8 = .ok (.aload_n 0, 1) := by decide +kernel
theorem dX9_next_9 : decode cX9_next 9 = .ok (.getfield 20, 3) := by decide +kernel
theorem dX9_next_12 : decode cX9_next 12 = .ok (.aload_n 0, 1) := by decide +kernel
theorem dX9_next_13 : decode cX9_next 13 = .ok (.getfield 1, 3) := by decide +kernel
theorem dX9_next_16 : decode cX9_next 16 = .ok (.if_icmp .ge 42, 3) := by decide +kernel
theorem dX9_next_19 : decode cX9_next 19 = .ok (.aload_n 0, 1) := by decide +kernel
theorem dX9_next_20 : decode cX9_next 20 = .ok (.aload_n 0, 1) := by decide +kernel
theorem dX9_next_21 : decode cX9_next 21 = .ok (.getfield 20, 3) := by decide +kernel
theorem dX9_next_24 : decode cX9_next 24 = .ok (.invokevirtual 23, 3) := by decide +kernel
theorem dX9_next_27 : decode cX9_next 27 = .ok (.bipush 32, 2) := by decide +kernel
theorem dX9_next_29 : decode cX9_next 29 = .ok (.if_icmp .eq 16, 3) := by decide +kernel
theorem dX9_next_32 : decode cX9_next 32 = .ok (.aload_n 0, 1) := by decide +kernel
theorem dX9_next_33 : decode cX9_next 33 = .ok (.aload_n 0, 1) := by decide +kernel
theorem dX9_next_34 : decode cX9_next 34 = .ok (.getfield 20, 3) := by decide +kernel
theorem dX9_next_37 : decode cX9_next 37 = .ok (.invokevirtual 23, 3) := by decide +kernel
theorem dX9_next_40 : decode cX9_next 40 = .ok (.bipush 10, 2) := by decide +kernel
theorem dX9_next_42 : decode cX9_next 42 = .ok (.if_icmp .ne 16, 3) := by decide +kernel
theorem dX9_next_45 : decode cX9_next 45 = .ok (.aload_n 0, 1) := by decide +kernel
theorem dX9_next_46 : decode cX9_next 46 = .ok (.dup, 1) := by decide +kernel
theorem dX9_next_47 : decode cX9_next 47 = .ok (.getfield 20, 3) := by decide +kernel
theorem dX9_next_50 : decode cX9_next 50 = .ok (.iconst 1, 1) := by decide +kernel
theorem dX9_next_51 : decode cX9_next 51 = .ok (.iadd, 1) := by decide +kernel
theorem dX9_next_52 : decode cX9_next 52 = .ok (.putfield 20, 3) := by decide +kernel
theorem dX9_next_55 : decode cX9_next 55 = .ok (.goto (-47), 3) := by decide +kernel
theorem dX9_next_58 : decode cX9_next 58 = .ok (.aload_n 0, 1) := by decide +kernel
theorem dX9_next_59 : decode cX9_next 59 = .ok (.aload_n 0, 1) := by decide +kernel
theorem dX9_next_60 : decode cX9_next 60 = .ok (.getfield 20, 3) := by decide +kernel
theorem dX9_next_63 : decode cX9_next 63 = .ok (.invokevirtual 23, 3) := by decide +kernel
theorem dX9_next_66 : decode cX9_next 66 = .ok (.istore_n 1, 1) := by decide +kernel
theorem dX9_next_67 : decode cX9_next 67 = .ok (.aload_n 0, 1) := by decide +kernel
theorem dX9_next_68 : decode cX9_next 68 = .ok (.aload_n 0, 1) := by decide +kernel
theorem dX9_next_69 : decode cX9_next 69 = .ok (.getfield 20, 3) := by decide +kernel
theorem dX9_next_72 : decode cX9_next 72 = .ok (.iconst 1, 1) := by decide +kernel
theorem dX9_next_73 : decode cX9_next 73 = .ok (.iadd, 1) := by decide +kernel
theorem dX9_next_74 : decode cX9_next 74 = .ok (.putfield 17, 3) := by decide +kernel
theorem dX9_next_77 : decode cX9_next 77 = .ok (.aload_n 0, 1) := by decide +kernel
theorem dX9_next_78 : decode cX9_next 78 = .ok (.getfield 20, 3) := by decide +kernel
theorem dX9_next_81 : decode cX9_next 81 = .ok (.aload_n 0, 1) := by decide +kernel
theorem dX9_next_82 : decode cX9_next 82 = .ok (.getfield 1, 3) := by decide +kernel
theorem dX9_next_85 : decode cX9_next 85 = .ok (.if_icmp .lt 27, 3) := by decide +kernel
theorem dX9_next_88 : decode cX9_next 88 = .ok (.aload_n 0, 1) := by decide +kernel
theorem dX9_next_89 : decode cX9_next 89 = .ok (.iconst 0, 1) := by decide +kernel
theorem dX9_next_90 : decode cX9_next 90 = .ok (.putfield 27, 3) := by decide +kernel
theorem dX9_next_93 : decode cX9_next 93 = .ok (.aload_n 0, 1) := by decide +kernel
theorem dX9_next_94 : decode cX9_next 94 = .ok (.aload_n 0, 1) := by decide +kernel
theorem dX9_next_95 : decode cX9_next 95 = .ok (.getfield 1, 3) := by decide +kernel
theorem dX9_next_98 : decode cX9_next 98 = .ok (.putfield 20, 3) := by decide +kernel
theorem dX9_next_101 : decode cX9_next 101 = .ok (.aload_n 0, 1) := by decide +kernel
theorem dX9_next_102 : decode cX9_next 102 = .ok (.aload_n 0, 1) := by decide +kernel
theorem dX9_next_103 : decode cX9_next 103 = .ok (.getfield 1, 3) := by decide +kernel
theorem dX9_next_106 : decode cX9_next 106 = .ok (.putfield 17, 3) := by decide +kernel
theorem dX9_next_109 : decode cX9_next 109 = .ok (.goto 254, 3) := by decide +kernel
theorem dX9_next_112 : decode cX9_next 112 = .ok (.iload_n 1, 1) := by decide +kernel
theorem dX9_next_113 : decode cX9_next 113 = .ok (.invokestatic 30, 3) := by decide +kernel
theorem dX9_next_116 : decode cX9_next 116 = .ok (.ifCond .eq 109, 3) := by decide +kernel
theorem dX9_next_119 : decode cX9_next 119 = .ok (.aload_n 0, 1) := by decide +kernel
theorem dX9_next_120 : decode cX9_next 120 = .ok (.aload_n 0, 1) := by decide +kernel
theorem dX9_next_121 : decode cX9_next 121 = .ok (.getfield 17, 3) := by decide +kernel
theorem dX9_next_124 : decode cX9_next 124 = .ok (.invokevirtual 23, 3) := by decide +kernel
theorem dX9_next_127 : decode cX9_next 127 = .ok (.invokestatic 30, 3) := by decide +kernel
theorem dX9_next_130 : decode cX9_next 130 = .ok (.ifCond .eq 16, 3) := by decide +kernel
theorem dX9_next_133 : decode cX9_next 133 = .ok (.aload_n 0, 1) := by decide +kernel
theorem dX9_next_134 : decode cX9_next 134 = .ok (.dup, 1) := by decide +kernel
theorem dX9_next_135 : decode cX9_next 135 = .ok (.getfield 17, 3) := by decide +kernel
theorem dX9_next_138 : decode cX9_next 138 = .ok (.iconst 1, 1) := by decide +kernel
theorem dX9_next_139 : decode cX9_next 139 = .ok (.iadd, 1) := by decide +kernel
theorem dX9_next_140 : decode cX9_next 140 = .ok (.putfield 17, 3) := by decide +kernel
theorem dX9_next_143 : decode cX9_next 143 = .ok (.goto (-24), 3) := by decide +kernel
theorem dX9_next_146 : decode cX9_next 146 = .ok (.aload_n 0, 1) := by decide +kernel
theorem dX9_next_147 : decode cX9_next 147 = .ok (.lconst 0, 1) := by decide +kernel
theorem dX9_next_148 : decode cX9_next 148 = .ok (.putfield 34, 3) := by decide +kernel
theorem dX9_next_151 : decode cX9_next 151 = .ok (.aload_n 0, 1) := by decide +kernel
theorem dX9_next_152 : decode cX9_next 152 = .ok (.getfield 20, 3) := by decide +kernel
theorem dX9_next_155 : decode cX9_next 155 = .ok (.istore_n 2, 1) := by decide +kernel
theorem dX9_next_156 : decode cX9_next 156 = .ok (.iload_n 2, 1) := by decide +kernel
theorem dX9_next_157 : decode cX9_next 157 = .ok (.aload_n 0, 1) := by decide +kernel
theorem dX9_next_158 : decode cX9_next 158 = .ok (.getfield 17, 3) := by decide +kernel
theorem dX9_next_161 : decode cX9_next 161 = .ok (.if_icmp .ge 38, 3) := by decide +kernel
theorem dX9_next_164 : decode cX9_next 164 = .ok (.iload_n 2, 1) := by decide +kernel
theorem dX9_next_165 : decode cX9_next 165 = .ok (.aload_n 0, 1) := by decide +kernel
theorem dX9_next_166 : decode cX9_next 166 = .ok (.getfield 20, 3) := by decide +kernel
theorem dX9_next_169 : decode cX9_next 169 = .ok (.bipush 8, 2) := by decide +kernel
theorem dX9_next_171 : decode cX9_next 171 = .ok (.iadd, 1) := by decide +kernel
theorem dX9_next_172 : decode cX9_next 172 = .ok (.if_icmp .ge 27, 3) := by decide +kernel
theorem dX9_next_175 : decode cX9_next 175 = .ok (.aload_n 0, 1) := by decide +kernel
theorem dX9_next_176 : decode cX9_next 176 = .ok (.aload_n 0, 1) := by decide +kernel
theorem dX9_next_177 : decode cX9_next 177 = .ok (.getfield 34, 3) := by decide +kernel
theorem dX9_next_180 : decode cX9_next 180 = .ok (.bipush 8, 2) := by decide +kernel
theorem dX9_next_182 : decode cX9_next 182 = .ok (.lshl, 1) := by decide +kernel
theorem dX9_next_183 : decode cX9_next 183 = .ok (.aload_n 0, 1) := by decide +kernel
theorem dX9_next_184 : decode cX9_next 184 = .ok (.iload_n 2, 1) := by decide +kernel
theorem dX9_next_185 : decode cX9_next 185 = .ok (.invokevirtual 23, 3) := by decide +kernel
theorem dX9_next_188 : decode cX9_next 188 = .ok (.i2l, 1) := by decide +kernel
theorem dX9_next_189 : decode cX9_next 189 = .ok (.lor, 1) := by decide +kernel
theorem dX9_next_190 : decode cX9_next 190 = .ok (.putfield 34, 3) := by decide +kernel
theorem dX9_next_193 : decode cX9_next 193 = .ok (.iinc 2 1, 3) := by decide +kernel
theorem dX9_next_196 : decode cX9_next 196 = .ok (.goto (-40), 3) := by decide +kernel
theorem dX9_next_199 : decode cX9_next 199 = .ok (.aload_n 0, 1) := by decide +kernel
theorem dX9_next_200 : decode cX9_next 200 = .ok (.aload_n 0, 1) := by decide +kernel
theorem dX9_next_201 : decode cX9_next 201 = .ok (.getfield 17, 3) := by decide +kernel
theorem dX9_next_204 : decode cX9_next 204 = .ok (.aload_n 0, 1) := by decide +kernel
theorem dX9_next_205 : decode cX9_next 205 = .ok (.getfield 20, 3) := by decide +kernel
theorem dX9_next_208 : decode cX9_next 208 = .ok (.isub, 1) := by decide +kernel
theorem dX9_next_209 : decode cX9_next 209 = .ok (.bipush 8, 2) := by decide +kernel
theorem dX9_next_211 : decode cX9_next 211 = .ok (.if_icmp .le 7, 3) := by decide +kernel
theorem dX9_next_214 : decode cX9_next 214 = .ok (.iconst 1, 1) := by decide +kernel
theorem dX9_next_215 : decode cX9_next 215 = .ok (.goto 4, 3) := by decide +kernel
theorem dX9_next_218 : decode cX9_next 218 = .ok (.iconst 2, 1) := by decide +kernel
theorem dX9_next_219 : decode cX9_next 219 = .ok (.putfield 27, 3) := by decide +kernel
theorem dX9_next_222 : decode cX9_next 222 = .ok (.goto 141, 3) := by decide +kernel
theorem dX9_next_225 : decode cX9_next 225 = .ok (.iload_n 1, 1) := by decide +kernel
theorem dX9_next_226 : decode cX9_next 226 = .ok (.invokestatic 38, 3) := by decide +kernel
theorem dX9_next_229 : decode cX9_next 229 = .ok (.ifCond .eq 118, 3) := by decide +kernel
theorem dX9_next_232 : decode cX9_next 232 = .ok (.aload_n 0, 1) := by decide +kernel
theorem dX9_next_233 : decode cX9_next 233 = .ok (.iconst 0, 1) := by decide +kernel
theorem dX9_next_234 : decode cX9_next 234 = .ok (.putfield 41, 3) := by decide +kernel
theorem dX9_next_237 : decode cX9_next 237 = .ok (.aload_n 0, 1) := by decide +kernel
theorem dX9_next_238 : decode cX9_next 238 = .ok (.aload_n 0, 1) := by decide +kernel
theorem dX9_next_239 : decode cX9_next 239 = .ok (.getfield 20, 3) := by decide +kernel
theorem dX9_next_242 : decode cX9_next 242 = .ok (.putfield 17, 3) := by decide +kernel
theorem dX9_next_245 : decode cX9_next 245 = .ok (.aload_n 0, 1) := by decide +kernel
theorem dX9_next_246 : decode cX9_next 246 = .ok (.aload_n 0, 1) := by decide +kernel
theorem dX9_next_247 : decode cX9_next 247 = .ok (.getfield 17, 3) := by decide +kernel
theorem dX9_next_250 : decode cX9_next 250 = .ok (.invokevirtual 23, 3) := by decide +kernel
theorem dX9_next_253 : decode cX9_next 253 = .ok (.invokestatic 38, 3) := by decide +kernel
theorem dX9_next_256 : decode cX9_next 256 = .ok (.ifCond .eq 52, 3) := by decide +kernel
theorem dX9_next_259 : decode cX9_next 259 = .ok (.aload_n 0, 1) := by decide +kernel
theorem dX9_next_260 : decode cX9_next 260 = .ok (.getfield 17, 3) := by decide +kernel
theorem dX9_next_263 : decode cX9_next 263 = .ok (.aload_n 0, 1) := by decide +kernel
theorem dX9_next_264 : decode cX9_next 264 = .ok (.getfield 20, 3) := by decide +kernel
theorem dX9_next_267 : decode cX9_next 267 = .ok (.isub, 1) := by decide +kernel
theorem dX9_next_268 : decode cX9_next 268 = .ok (.iconst 4, 1) := by decide +kernel
theorem dX9_next_269 : decode cX9_next 269 = .ok (.if_icmp .ge 26, 3) := by decide +kernel
theorem dX9_next_272 : decode cX9_next 272 = .ok (.aload_n 0, 1) := by decide +kernel
theorem dX9_next_273 : decode cX9_next 273 = .ok (.bipush 10, 2) := by decide +kernel
theorem dX9_next_275 : decode cX9_next 275 = .ok (.aload_n 0, 1) := by decide +kernel
theorem dX9_next_276 : decode cX9_next 276 = .ok (.getfield 41, 3) := by decide +kernel
theorem dX9_next_279 : decode cX9_next 279 = .ok (.imul, 1) := by decide +kernel
theorem dX9_next_280 : decode cX9_next 280 = .ok (.aload_n 0, 1) := by decide +kernel
theorem dX9_next_281 : decode cX9_next 281 = .ok (.aload_n 0, 1) := by decide +kernel
theorem dX9_next_282 : decode cX9_next 282 = .ok (.getfield 17, 3) := by decide +kernel
theorem dX9_next_285 : decode cX9_next 285 = .ok (.invokevirtual 23, 3) := by decide +kernel
theorem dX9_next_288 : decode cX9_next 288 = .ok (.iadd, 1) := by decide +kernel
theorem dX9_next_289 : decode cX9_next 289 = .ok (.bipush 48, 2) := by decide +kernel
theorem dX9_next_291 : decode cX9_next 291 = .ok (.isub, 1) := by decide +kernel
theorem dX9_next_292 : decode cX9_next 292 = .ok (.putfield 41, 3) := by decide +kernel
theorem dX9_next_295 : decode cX9_next 295 = .ok (.aload_n 0, 1) := by decide +kernel
theorem dX9_next_296 : decode cX9_next 296 = .ok (.dup, 1) := by decide +kernel
theorem dX9_next_297 : decode cX9_next 297 = .ok (.getfield 17, 3) := by decide +kernel
theorem dX9_next_300 : decode cX9_next 300 = .ok (.iconst 1, 1) := by decide +kernel
theorem dX9_next_301 : decode cX9_next 301 = .ok (.iadd, 1) := by decide +kernel
theorem dX9_next_302 : decode cX9_next 302 = .ok (.putfield 17, 3) := by decide +kernel
theorem dX9_next_305 : decode cX9_next 305 = .ok (.goto (-60), 3) := by decide +kernel
theorem dX9_next_308 : decode cX9_next 308 = .ok (.aload_n 0, 1) := by decide +kernel
theorem dX9_next_309 : decode cX9_next 309 = .ok (.aload_n 0, 1) := by decide +kernel
theorem dX9_next_310 : decode cX9_next 310 = .ok (.getfield 17, 3) := by decide +kernel
theorem dX9_next_313 : decode cX9_next 313 = .ok (.aload_n 0, 1) := by decide +kernel
theorem dX9_next_314 : decode cX9_next 314 = .ok (.getfield 20, 3) := by decide +kernel
theorem dX9_next_317 : decode cX9_next 317 = .ok (.isub, 1) := by decide +kernel
theorem dX9_next_318 : decode cX9_next 318 = .ok (.iconst 4, 1) := by decide +kernel
theorem dX9_next_319 : decode cX9_next 319 = .ok (.if_icmp .gt 17, 3) := by decide +kernel
theorem dX9_next_322 : decode cX9_next 322 = .ok (.aload_n 0, 1) := by decide +kernel
theorem dX9_next_323 : decode cX9_next 323 = .ok (.aload_n 0, 1) := by decide +kernel
theorem dX9_next_324 : decode cX9_next 324 = .ok (.getfield 17, 3) := by decide +kernel
theorem dX9_next_327 : decode cX9_next 327 = .ok (.invokevirtual 23, 3) := by decide +kernel
theorem dX9_next_330 : decode cX9_next 330 = .ok (.invokestatic 30, 3) := by decide +kernel
theorem dX9_next_333 : decode cX9_next 333 = .ok (.ifCond .eq 7, 3) := by decide +kernel
theorem dX9_next_336 : decode cX9_next 336 = .ok (.iconst 1, 1) := by decide +kernel
theorem dX9_next_337 : decode cX9_next 337 = .ok (.goto 4, 3) := by decide +kernel
theorem dX9_next_340 : decode cX9_next 340 = .ok (.iconst 3, 1) := by decide +kernel
theorem dX9_next_341 : decode cX9_next 341 = .ok (.putfield 27, 3) := by decide +kernel
theorem dX9_next_344 : decode cX9_next 344 = .ok (.goto 19, 3) := by decide +kernel
theorem dX9_next_347 : decode cX9_next 347 = .ok (.aload_n 0, 1) := by decide +kernel
theorem dX9_next_348 : decode cX9_next 348 = .ok (.iload_n 1, 1) := by decide +kernel
theorem dX9_next_349 : decode cX9_next 349 = .ok (.invokestatic 44, 3) := by decide +kernel
theorem dX9_next_352 : decode cX9_next 352 = .ok (.ifCond .eq 7, 3) := by decide +kernel
theorem dX9_next_355 : decode cX9_next 355 = .ok (.iconst 4, 1) := by decide +kernel
theorem dX9_next_356 : decode cX9_next 356 = .ok (.goto 4, 3) := by decide +kernel
theorem dX9_next_359 : decode cX9_next 359 = .ok (.iconst 1, 1) := by decide +kernel
theorem dX9_next_360 : decode cX9_next 360 = .ok (.putfield 27, 3) := by decide +kernel
theorem dX9_next_363 : decode cX9_next 363 = .ok (.return_, 1) := by decide +kernel
theorem dX9_isGood_0 : decode cX9_isGood 0 = .ok (.aload_n 0, 1) := by decide +kernel
theorem dX9_isGood_1 : decode cX9_isGood 1 = .ok (.getfield 11, 3) := by decide +kernel
theorem dX9_isGood_4 : decode cX9_isGood 4 = .ok (.ifCond .ne 7, 3) := by decide +kernel
theorem dX9_isGood_7 : decode cX9_isGood 7 = .ok (.iconst 1, 1) := by decide +kernel
theorem dX9_isGood_8 : decode cX9_isGood 8 = .ok (.goto 4, 3) := by decide +kernel
theorem dX9_isGood_11 : decode cX9_isGood 11 = .ok (.iconst 0, 1) := by decide +kernel
theorem dX9_isGood_12 : decode cX9_isGood 12 = .ok (.ireturn, 1) := by decide +kernel
def f_X8_openChain (a0 : Nat) (v1 : Int32) (v2 : Int32) (v3 : Int32) (v4 : Int32) (h : Hp) : Option (Int32 × Hp) :=
  (rc h (some a0) 7).bind fun g3 =>
  b1 (f_X8_factOf g3 (5 : Int32) v2 h) fun x5 h1 =>
  if x5 = none then
    some (0, h1)
  else
    (getI h1 x5 1 6).bind fun x7 =>
    (rc h1 (some a0) 7).bind fun g11 =>
    b1 (f_X8_openSheet g11 v1 x7 v3 v4 h1) fun x13 h9 =>
    if x13 = (0 : Int32) then
      some (0, h9)
    else
      (getQ h9 (some a0) 7 8).bind fun x15 =>
      (rc h9 x15 4).bind fun g19 =>
      (f_X4_listHolidays g19 v4 h9).bind fun h17 =>
      (getQ h17 (some a0) 7 8).bind fun x21 =>
      (getI h17 x5 1 2).bind fun x23 =>
      (rc h17 x21 4).bind fun g27 =>
      (f_X4_findChain g27 x23 h17).bind fun h25 =>
      some (1, h25)
set_option maxHeartbeats 4000000 in
theorem t_X8_openChain (E : En) (d : Nat) {mc ms : Nat} {a0 : Nat} {v1 : Int32} {v2 : Int32} {v3 : Int32} {v4 : Int32} {h h' : Hp} {r : Int32} {K : Option Vv → Hp → Prop} (hf : f_X8_openChain a0 v1 v2 v3 v4 h = some (r, h')) (hk : K (some (vi r)) h') : MC E m_X8_openChain (d + 6) mc ms [vq (some a0), vi v1, vi v2, vi v3, vi v4] h K := by
  unfold f_X8_openChain at hf
  show MW E m_X8_openChain (d + 6) mc ms 0 [some (vq (some a0)), some (vi v1), some (vi v2), some (vi v3), some (vi v4), none] [] h K
  refine mw_aload_n (x := (some a0)) dX8_openChain_0 rfl ?_
  refine mw_iconst (v := 5) dX8_openChain_1 (by decide) ?_
  refine mw_iload_n (x := v2) dX8_openChain_2 rfl ?_
  obtain ⟨g3, e4, hf⟩ := ob hf
  obtain ⟨x5, h1, e2, hf⟩ := ob1 hf
  refine ml_callV (ci := 7) (mc' := 0) (ms' := 0) [vi (5 : Int32), vi v2] dX8_openChain_3 mk_X8_factOf lk_RX8_170 im_X8_factOf se_X8_factOf (by decide) e4 rfl (Nat.le_of_ble_eq_true rfl) (Nat.le_of_ble_eq_true rfl) (t_X8_factOf E _ e2 isR_rfl) ?_
  refine mw_astore dX8_openChain_6 (by decide) rfl ?_
  refine mw_aload (x := x5) dX8_openChain_8 rfl ?_
  refine mw_ifnull (tgt := 29) dX8_openChain_10 rfl (fun c6 => ?_) (fun c6 => ?_)
  · rw [if_pos c6] at hf
    refine mw_iconst (v := 0) dX8_openChain_29 (by decide) ?_
    obtain ⟨rfl, rfl⟩ := y1 hf
    exact mw_ireturn dX8_openChain_30 rfl rfl hk
  · rw [if_neg c6] at hf
    refine mw_aload_n (x := (some a0)) dX8_openChain_13 rfl ?_
    refine mw_iload_n (x := v1) dX8_openChain_14 rfl ?_
    refine mw_aload (x := x5) dX8_openChain_15 rfl ?_
    obtain ⟨x7, e8, hf⟩ := ob hf
    refine ml_getI dX8_openChain_17 fl_RX8_120 rfl e8 ?_
    refine mw_iload_n (x := v3) dX8_openChain_20 rfl ?_
    refine mw_iload (x := v4) dX8_openChain_21 rfl ?_
    obtain ⟨g11, e12, hf⟩ := ob hf
    obtain ⟨x13, h9, e10, hf⟩ := ob1 hf
    refine ml_callV (ci := 7) (mc' := 0) (ms' := 0) [vi v1, vi x7, vi v3, vi v4] dX8_openChain_23 mk_X8_openSheet lk_RX8_159 im_X8_openSheet se_X8_openSheet (by decide) e12 rfl (Nat.le_of_ble_eq_true rfl) (Nat.le_of_ble_eq_true rfl) (t_X8_openSheet E _ e10 isR_rfl) ?_
    refine mw_if_ne (tgt := 31) dX8_openChain_26 rfl (fun c14 => ?_) (fun c14 => ?_)
    · rw [if_neg c14] at hf
      refine mw_aload_n (x := (some a0)) dX8_openChain_31 rfl ?_
      obtain ⟨x15, e16, hf⟩ := ob hf
      refine ml_getQ dX8_openChain_32 fl_RX8_44 rfl e16 ?_
      refine mw_iload (x := v4) dX8_openChain_35 rfl ?_
      obtain ⟨g19, e20, hf⟩ := ob hf
      obtain ⟨h17, e18, hf⟩ := ob hf
      refine ml_callV (ci := 4) (mc' := 0) (ms' := 0) [vi v4] dX8_openChain_37 mk_X4_listHolidays lk_RX8_206 im_X4_listHolidays se_X4_listHolidays (by decide) e20 rfl (Nat.le_of_ble_eq_true rfl) (Nat.le_of_ble_eq_true rfl) (t_X4_listHolidays E _ e18 isR_rfl) ?_
      refine mw_aload_n (x := (some a0)) dX8_openChain_40 rfl ?_
      obtain ⟨x21, e22, hf⟩ := ob hf
      refine ml_getQ dX8_openChain_41 fl_RX8_44 rfl e22 ?_
      refine mw_aload (x := x5) dX8_openChain_44 rfl ?_
      obtain ⟨x23, e24, hf⟩ := ob hf
      refine ml_getI dX8_openChain_46 fl_RX8_174 rfl e24 ?_
      obtain ⟨g27, e28, hf⟩ := ob hf
      obtain ⟨h25, e26, hf⟩ := ob hf
      refine ml_callV (ci := 4) (mc' := 0) (ms' := 0) [vi x23] dX8_openChain_49 mk_X4_findChain lk_RX8_242 im_X4_findChain se_X4_findChain (by decide) e28 rfl (Nat.le_of_ble_eq_true rfl) (Nat.le_of_ble_eq_true rfl) (t_X4_findChain E _ e26 isR_rfl) ?_
      refine mw_iconst (v := 1) dX8_openChain_52 (by decide) ?_
      obtain ⟨rfl, rfl⟩ := y1 hf
      exact mw_ireturn dX8_openChain_53 rfl rfl hk
    · rw [if_pos c14] at hf
      refine mw_iconst (v := 0) dX8_openChain_29 (by decide) ?_
      obtain ⟨rfl, rfl⟩ := y1 hf
      exact mw_ireturn dX8_openChain_30 rfl rfl hk
def f_X8_chain (a0 : Nat) (v1 : Int32) (v2 : Int32) (v3 : Int32) (v4 : Int32) (h : Hp) : Option (Int32 × Hp) :=
  (rc h (some a0) 7).bind fun g3 =>
  b1 (f_X8_openChain g3 v1 v2 v3 v4 h) fun x5 h1 =>
  b1 ((if x5 = (0 : Int32) then
      some ((-1), h1)
    else
      (getQ h1 (some a0) 7 8).bind fun x14 =>
      (rc h1 x14 4).bind fun g18 =>
      b1 (f_X4_links g18 h1) fun x20 h16 =>
      some (x20, h16) : Option (Int32 × Hp))) fun w21 h22 =>
  some (w21, h22)
set_option maxHeartbeats 4000000 in
theorem t_X8_chain (E : En) (d : Nat) {mc ms : Nat} {a0 : Nat} {v1 : Int32} {v2 : Int32} {v3 : Int32} {v4 : Int32} {h h' : Hp} {r : Int32} {K : Option Vv → Hp → Prop} (hf : f_X8_chain a0 v1 v2 v3 v4 h = some (r, h')) (hk : K (some (vi r)) h') : MC E m_X8_chain (d + 7) mc ms [vq (some a0), vi v1, vi v2, vi v3, vi v4] h K := by
  unfold f_X8_chain at hf
  show MW E m_X8_chain (d + 7) mc ms 0 [some (vq (some a0)), some (vi v1), some (vi v2), some (vi v3), some (vi v4)] [] h K
  refine mw_aload_n (x := (some a0)) dX8_chain_0 rfl ?_
  refine mw_iload_n (x := v1) dX8_chain_1 rfl ?_
  refine mw_iload_n (x := v2) dX8_chain_2 rfl ?_
  refine mw_iload_n (x := v3) dX8_chain_3 rfl ?_
  refine mw_iload (x := v4) dX8_chain_4 rfl ?_
  obtain ⟨g3, e4, hf⟩ := ob hf
  obtain ⟨x5, h1, e2, hf⟩ := ob1 hf
  refine ml_callV (ci := 7) (mc' := 0) (ms' := 0) [vi v1, vi v2, vi v3, vi v4] dX8_chain_6 mk_X8_openChain lk_RX8_187 im_X8_openChain se_X8_openChain (by decide) e4 rfl (Nat.le_of_ble_eq_true rfl) (Nat.le_of_ble_eq_true rfl) (t_X8_openChain E _ e2 isR_rfl) ?_
  obtain ⟨w21, h22, r23, hf⟩ := ob1 hf
  have J24 : MW E m_X8_chain (d + 7) mc ms 23 [none, none, none, none, none] [vi w21] h22 K := by
    obtain ⟨rfl, rfl⟩ := y1 hf
    exact mw_ireturn dX8_chain_23 rfl rfl hk
  refine mw_if_eq (tgt := 22) dX8_chain_9 rfl (fun c6 => ?_) (fun c6 => ?_)
  · rw [if_pos c6] at r23
    refine mw_iconst (v := (-1)) dX8_chain_22 (by decide) ?_
    obtain ⟨rfl, rfl⟩ := y1 r23
    exact MW.sub (subL_n (subL_n (subL_n (subL_n (subL_n subL_nil))))) J24
  · rw [if_neg c6] at r23
    refine mw_aload_n (x := (some a0)) dX8_chain_12 rfl ?_
    obtain ⟨x14, e15, r23⟩ := ob r23
    refine ml_getQ dX8_chain_13 fl_RX8_44 rfl e15 ?_
    obtain ⟨g18, e19, r23⟩ := ob r23
    obtain ⟨x20, h16, e17, r23⟩ := ob1 r23
    refine ml_callV (ci := 4) (mc' := 0) (ms' := 0) [] dX8_chain_16 mk_X4_links lk_RX8_190 im_X4_links se_X4_links (by decide) e19 rfl (Nat.le_of_ble_eq_true rfl) (Nat.le_of_ble_eq_true rfl) (t_X4_links E _ e17 isR_rfl) ?_
    refine mw_goto (tgt := 23) dX8_chain_19 rfl ?_
    obtain ⟨rfl, rfl⟩ := y1 r23
    exact MW.sub (subL_n (subL_n (subL_n (subL_n (subL_n subL_nil))))) J24
def f_X8_claim (a0 : Nat) (v1 : Int32) (v2 : Int32) (h : Hp) : Option (Int32 × Hp) :=
  b1 (f_X8_within v2 (0 : Int32) (999 : Int32) h) fun x3 h1 =>
  b1 ((if x3 = (0 : Int32) then
      some ((-1), h1)
    else
      (rc h1 (some a0) 7).bind fun g12 =>
      b1 (f_X8_tell g12 (5 : Int32) v1 v2 (0 : Int32) (0 : Int32) h1) fun x14 h10 =>
      some (x14, h10) : Option (Int32 × Hp))) fun w15 h16 =>
  some (w15, h16)
set_option maxHeartbeats 4000000 in
theorem t_X8_claim (E : En) (d : Nat) {a0 : Nat} {v1 : Int32} {v2 : Int32} {h h' : Hp} {r : Int32} {K : Option Vv → Hp → Prop} (hf : f_X8_claim a0 v1 v2 h = some (r, h')) (hk : K (some (vi r)) h') : MC E m_X8_claim (d + 3) 1 12 [vq (some a0), vi v1, vi v2] h K := by
  unfold f_X8_claim at hf
  show MW E m_X8_claim (d + 3) 1 12 0 [some (vq (some a0)), some (vi v1), some (vi v2)] [] h K
  refine mw_iload_n (x := v2) dX8_claim_0 rfl ?_
  refine mw_iconst (v := 0) dX8_claim_1 (by decide) ?_
  refine mw_sipush (v := 999) dX8_claim_2 (by decide) ?_
  obtain ⟨x3, h1, e2, hf⟩ := ob1 hf
  refine ml_callS (mc := 1) (ms := 12) (mc' := 0) (ms' := 0) [vi v2, vi (0 : Int32), vi (999 : Int32)] dX8_claim_5 mk_X8_within lk_RX8_81 st_X8_within rfl (Nat.le_of_ble_eq_true rfl) (Nat.le_of_ble_eq_true rfl) (t_X8_within E _ e2 isR_rfl) ?_
  obtain ⟨w15, h16, r17, hf⟩ := ob1 hf
  have J18 : MW E m_X8_claim (d + 3) 0 0 24 [none, none, none] [vi w15] h16 K := by
    obtain ⟨rfl, rfl⟩ := y1 hf
    exact mw_ireturn dX8_claim_24 rfl rfl hk
  refine mw_if_eq (tgt := 23) dX8_claim_8 rfl (fun c4 => ?_) (fun c4 => ?_)
  · rw [if_pos c4] at r17
    refine mw_iconst (v := (-1)) dX8_claim_23 (by decide) ?_
    obtain ⟨rfl, rfl⟩ := y1 r17
    exact MW.sub (subL_n (subL_n (subL_n subL_nil))) (MW.more (Nat.le_refl _) (by decide) (by decide) J18)
  · rw [if_neg c4] at r17
    refine mw_aload_n (x := (some a0)) dX8_claim_11 rfl ?_
    refine mw_iconst (v := 5) dX8_claim_12 (by decide) ?_
    refine mw_iload_n (x := v1) dX8_claim_13 rfl ?_
    refine mw_iload_n (x := v2) dX8_claim_14 rfl ?_
    refine mw_iconst (v := 0) dX8_claim_15 (by decide) ?_
    refine mw_iconst (v := 0) dX8_claim_16 (by decide) ?_
    obtain ⟨g12, e13, r17⟩ := ob r17
    obtain ⟨x14, h10, e11, r17⟩ := ob1 r17
    refine ml_callV (ci := 7) (mc := 0) (ms := 0) (mc' := 1) (ms' := 12) [vi (5 : Int32), vi v1, vi v2, vi (0 : Int32), vi (0 : Int32)] dX8_claim_17 mk_X8_tell lk_RX8_95 im_X8_tell se_X8_tell (by decide) e13 rfl (Nat.le_of_ble_eq_true rfl) (Nat.le_of_ble_eq_true rfl) (t_X8_tell E _ e11 isR_rfl) ?_
    refine mw_goto (tgt := 24) dX8_claim_20 rfl ?_
    obtain ⟨rfl, rfl⟩ := y1 r17
    exact MW.sub (subL_n (subL_n (subL_n subL_nil))) (MW.more (Nat.le_refl _) (by decide) (by decide) J18)
def f_X8_counted (a0 : Nat) (v1 : Int32) (v2 : Int32) (v3 : Int32) (v4 : Int32) (v5 : Int32) (h : Hp) : Option (Int32 × Hp) :=
  b1 (f_X8_isWeek v3 h) fun x3 h1 =>
  if x3 = (0 : Int32) then
    some ((-1), h1)
  else
    (rc h1 (some a0) 7).bind fun g7 =>
    b1 (f_X8_openSheet g7 v1 v2 v4 v5 h1) fun x9 h5 =>
    if x9 = (0 : Int32) then
      some ((-1), h5)
    else
      (getQ h5 (some a0) 7 8).bind fun x11 =>
      (rc h5 x11 4).bind fun g15 =>
      b1 (f_X4_countIn g15 v3 h5) fun x17 h13 =>
      some (x17, h13)
set_option maxHeartbeats 4000000 in
theorem t_X8_counted (E : En) (d : Nat) {mc ms : Nat} {a0 : Nat} {v1 : Int32} {v2 : Int32} {v3 : Int32} {v4 : Int32} {v5 : Int32} {h h' : Hp} {r : Int32} {K : Option Vv → Hp → Prop} (hf : f_X8_counted a0 v1 v2 v3 v4 v5 h = some (r, h')) (hk : K (some (vi r)) h') : MC E m_X8_counted (d + 6) mc ms [vq (some a0), vi v1, vi v2, vi v3, vi v4, vi v5] h K := by
  unfold f_X8_counted at hf
  show MW E m_X8_counted (d + 6) mc ms 0 [some (vq (some a0)), some (vi v1), some (vi v2), some (vi v3), some (vi v4), some (vi v5)] [] h K
  refine mw_iload_n (x := v3) dX8_counted_0 rfl ?_
  obtain ⟨x3, h1, e2, hf⟩ := ob1 hf
  refine ml_callS (mc' := 0) (ms' := 0) [vi v3] dX8_counted_1 mk_X8_isWeek lk_RX8_91 st_X8_isWeek rfl (Nat.le_of_ble_eq_true rfl) (Nat.le_of_ble_eq_true rfl) (t_X8_isWeek E _ e2 isR_rfl) ?_
  refine mw_if_eq (tgt := 20) dX8_counted_4 rfl (fun c4 => ?_) (fun c4 => ?_)
  · rw [if_pos c4] at hf
    refine mw_iconst (v := (-1)) dX8_counted_20 (by decide) ?_
    obtain ⟨rfl, rfl⟩ := y1 hf
    exact mw_ireturn dX8_counted_21 rfl rfl hk
  · rw [if_neg c4] at hf
    refine mw_aload_n (x := (some a0)) dX8_counted_7 rfl ?_
    refine mw_iload_n (x := v1) dX8_counted_8 rfl ?_
    refine mw_iload_n (x := v2) dX8_counted_9 rfl ?_
    refine mw_iload (x := v4) dX8_counted_10 rfl ?_
    refine mw_iload (x := v5) dX8_counted_12 rfl ?_
    obtain ⟨g7, e8, hf⟩ := ob hf
    obtain ⟨x9, h5, e6, hf⟩ := ob1 hf
    refine ml_callV (ci := 7) (mc' := 0) (ms' := 0) [vi v1, vi v2, vi v4, vi v5] dX8_counted_14 mk_X8_openSheet lk_RX8_159 im_X8_openSheet se_X8_openSheet (by decide) e8 rfl (Nat.le_of_ble_eq_true rfl) (Nat.le_of_ble_eq_true rfl) (t_X8_openSheet E _ e6 isR_rfl) ?_
    refine mw_if_ne (tgt := 22) dX8_counted_17 rfl (fun c10 => ?_) (fun c10 => ?_)
    · rw [if_neg c10] at hf
      refine mw_aload_n (x := (some a0)) dX8_counted_22 rfl ?_
      obtain ⟨x11, e12, hf⟩ := ob hf
      refine ml_getQ dX8_counted_23 fl_RX8_44 rfl e12 ?_
      refine mw_iload_n (x := v3) dX8_counted_26 rfl ?_
      obtain ⟨g15, e16, hf⟩ := ob hf
      obtain ⟨x17, h13, e14, hf⟩ := ob1 hf
      refine ml_callV (ci := 4) (mc' := 0) (ms' := 0) [vi v3] dX8_counted_27 mk_X4_countIn lk_RX8_163 im_X4_countIn se_X4_countIn (by decide) e16 rfl (Nat.le_of_ble_eq_true rfl) (Nat.le_of_ble_eq_true rfl) (t_X4_countIn E _ e14 isR_rfl) ?_
      obtain ⟨rfl, rfl⟩ := y1 hf
      exact mw_ireturn dX8_counted_30 rfl rfl hk
    · rw [if_pos c10] at hf
      refine mw_iconst (v := (-1)) dX8_counted_20 (by decide) ?_
      obtain ⟨rfl, rfl⟩ := y1 hf
      exact mw_ireturn dX8_counted_21 rfl rfl hk
def f_X8_due (a0 : Nat) (v1 : Int32) (v2 : Int32) (v3 : Int32) (v4 : Int32) (h : Hp) : Option (Int64 × Hp) :=
  (rc h (some a0) 7).bind fun g3 =>
  b1 (f_X8_factOf g3 (5 : Int32) v2 h) fun x5 h1 =>
  if x5 = none then
    some ((-1), h1)
  else
    (rc h1 (some a0) 7).bind fun g9 =>
    b1 (f_X8_openChain g9 v1 v2 v3 v4 h1) fun x11 h7 =>
    if x11 = (0 : Int32) then
      some ((-1), h7)
    else
      (getQ h7 (some a0) 7 8).bind fun x13 =>
      (getI h7 x5 1 2).bind fun x15 =>
      (rc h7 x13 4).bind fun g19 =>
      b1 (f_X4_dueOn g19 x15 h7) fun x21 h17 =>
      some (x21, h17)
set_option maxHeartbeats 4000000 in
theorem t_X8_due (E : En) (d : Nat) {mc ms : Nat} {a0 : Nat} {v1 : Int32} {v2 : Int32} {v3 : Int32} {v4 : Int32} {h h' : Hp} {r : Int64} {K : Option Vv → Hp → Prop} (hf : f_X8_due a0 v1 v2 v3 v4 h = some (r, h')) (hk : K (some (vl r)) h') : MC E m_X8_due (d + 7) mc ms [vq (some a0), vi v1, vi v2, vi v3, vi v4] h K := by
  unfold f_X8_due at hf
  show MW E m_X8_due (d + 7) mc ms 0 [some (vq (some a0)), some (vi v1), some (vi v2), some (vi v3), some (vi v4), none] [] h K
  refine mw_aload_n (x := (some a0)) dX8_due_0 rfl ?_
  refine mw_iconst (v := 5) dX8_due_1 (by decide) ?_
  refine mw_iload_n (x := v2) dX8_due_2 rfl ?_
  obtain ⟨g3, e4, hf⟩ := ob hf
  obtain ⟨x5, h1, e2, hf⟩ := ob1 hf
  refine ml_callV (ci := 7) (mc' := 0) (ms' := 0) [vi (5 : Int32), vi v2] dX8_due_3 mk_X8_factOf lk_RX8_170 im_X8_factOf se_X8_factOf (by decide) e4 rfl (Nat.le_of_ble_eq_true rfl) (Nat.le_of_ble_eq_true rfl) (t_X8_factOf E _ e2 isR_rfl) ?_
  refine mw_astore dX8_due_6 (by decide) rfl ?_
  refine mw_aload (x := x5) dX8_due_8 rfl ?_
  refine mw_ifnull (tgt := 25) dX8_due_10 rfl (fun c6 => ?_) (fun c6 => ?_)
  · rw [if_pos c6] at hf
    refine mw_ldc2 dX8_due_25 kc_RX8_200 ?_
    obtain ⟨rfl, rfl⟩ := y1 hf
    exact mw_lreturn dX8_due_28 rfl hk
  · rw [if_neg c6] at hf
    refine mw_aload_n (x := (some a0)) dX8_due_13 rfl ?_
    refine mw_iload_n (x := v1) dX8_due_14 rfl ?_
    refine mw_iload_n (x := v2) dX8_due_15 rfl ?_
    refine mw_iload_n (x := v3) dX8_due_16 rfl ?_
    refine mw_iload (x := v4) dX8_due_17 rfl ?_
    obtain ⟨g9, e10, hf⟩ := ob hf
    obtain ⟨x11, h7, e8, hf⟩ := ob1 hf
    refine ml_callV (ci := 7) (mc' := 0) (ms' := 0) [vi v1, vi v2, vi v3, vi v4] dX8_due_19 mk_X8_openChain lk_RX8_187 im_X8_openChain se_X8_openChain (by decide) e10 rfl (Nat.le_of_ble_eq_true rfl) (Nat.le_of_ble_eq_true rfl) (t_X8_openChain E _ e8 isR_rfl) ?_
    refine mw_if_ne (tgt := 29) dX8_due_22 rfl (fun c12 => ?_) (fun c12 => ?_)
    · rw [if_neg c12] at hf
      refine mw_aload_n (x := (some a0)) dX8_due_29 rfl ?_
      obtain ⟨x13, e14, hf⟩ := ob hf
      refine ml_getQ dX8_due_30 fl_RX8_44 rfl e14 ?_
      refine mw_aload (x := x5) dX8_due_33 rfl ?_
      obtain ⟨x15, e16, hf⟩ := ob hf
      refine ml_getI dX8_due_35 fl_RX8_174 rfl e16 ?_
      obtain ⟨g19, e20, hf⟩ := ob hf
      obtain ⟨x21, h17, e18, hf⟩ := ob1 hf
      refine ml_callV (ci := 4) (mc' := 0) (ms' := 0) [vi x15] dX8_due_38 mk_X4_dueOn lk_RX8_202 im_X4_dueOn se_X4_dueOn (by decide) e20 rfl (Nat.le_of_ble_eq_true rfl) (Nat.le_of_ble_eq_true rfl) (t_X4_dueOn E _ e18 isR_rfl) ?_
      obtain ⟨rfl, rfl⟩ := y1 hf
      exact mw_lreturn dX8_due_41 rfl hk
    · rw [if_pos c12] at hf
      refine mw_ldc2 dX8_due_25 kc_RX8_200 ?_
      obtain ⟨rfl, rfl⟩ := y1 hf
      exact mw_lreturn dX8_due_28 rfl hk
def f_X8_empty (a0 : Nat) (v1 : Int32) (v2 : Int32) (v3 : Int32) (v4 : Int32) (v5 : Int32) (h : Hp) : Option (Int32 × Hp) :=
  b1 (f_X8_isWeek v3 h) fun x3 h1 =>
  if x3 = (0 : Int32) then
    some ((-1), h1)
  else
    (rc h1 (some a0) 7).bind fun g7 =>
    b1 (f_X8_openSheet g7 v1 v2 v4 v5 h1) fun x9 h5 =>
    if x9 = (0 : Int32) then
      some ((-1), h5)
    else
      (getQ h5 (some a0) 7 8).bind fun x11 =>
      (rc h5 x11 4).bind fun g15 =>
      b1 (f_X4_emptyIn g15 v3 h5) fun x17 h13 =>
      some (x17, h13)
set_option maxHeartbeats 4000000 in
theorem t_X8_empty (E : En) (d : Nat) {mc ms : Nat} {a0 : Nat} {v1 : Int32} {v2 : Int32} {v3 : Int32} {v4 : Int32} {v5 : Int32} {h h' : Hp} {r : Int32} {K : Option Vv → Hp → Prop} (hf : f_X8_empty a0 v1 v2 v3 v4 v5 h = some (r, h')) (hk : K (some (vi r)) h') : MC E m_X8_empty (d + 6) mc ms [vq (some a0), vi v1, vi v2, vi v3, vi v4, vi v5] h K := by
  unfold f_X8_empty at hf
  show MW E m_X8_empty (d + 6) mc ms 0 [some (vq (some a0)), some (vi v1), some (vi v2), some (vi v3), some (vi v4), some (vi v5)] [] h K
  refine mw_iload_n (x := v3) dX8_empty_0 rfl ?_
  obtain ⟨x3, h1, e2, hf⟩ := ob1 hf
  refine ml_callS (mc' := 0) (ms' := 0) [vi v3] dX8_empty_1 mk_X8_isWeek lk_RX8_91 st_X8_isWeek rfl (Nat.le_of_ble_eq_true rfl) (Nat.le_of_ble_eq_true rfl) (t_X8_isWeek E _ e2 isR_rfl) ?_
  refine mw_if_eq (tgt := 20) dX8_empty_4 rfl (fun c4 => ?_) (fun c4 => ?_)
  · rw [if_pos c4] at hf
    refine mw_iconst (v := (-1)) dX8_empty_20 (by decide) ?_
    obtain ⟨rfl, rfl⟩ := y1 hf
    exact mw_ireturn dX8_empty_21 rfl rfl hk
  · rw [if_neg c4] at hf
    refine mw_aload_n (x := (some a0)) dX8_empty_7 rfl ?_
    refine mw_iload_n (x := v1) dX8_empty_8 rfl ?_
    refine mw_iload_n (x := v2) dX8_empty_9 rfl ?_
    refine mw_iload (x := v4) dX8_empty_10 rfl ?_
    refine mw_iload (x := v5) dX8_empty_12 rfl ?_
    obtain ⟨g7, e8, hf⟩ := ob hf
    obtain ⟨x9, h5, e6, hf⟩ := ob1 hf
    refine ml_callV (ci := 7) (mc' := 0) (ms' := 0) [vi v1, vi v2, vi v4, vi v5] dX8_empty_14 mk_X8_openSheet lk_RX8_159 im_X8_openSheet se_X8_openSheet (by decide) e8 rfl (Nat.le_of_ble_eq_true rfl) (Nat.le_of_ble_eq_true rfl) (t_X8_openSheet E _ e6 isR_rfl) ?_
    refine mw_if_ne (tgt := 22) dX8_empty_17 rfl (fun c10 => ?_) (fun c10 => ?_)
    · rw [if_neg c10] at hf
      refine mw_aload_n (x := (some a0)) dX8_empty_22 rfl ?_
      obtain ⟨x11, e12, hf⟩ := ob hf
      refine ml_getQ dX8_empty_23 fl_RX8_44 rfl e12 ?_
      refine mw_iload_n (x := v3) dX8_empty_26 rfl ?_
      obtain ⟨g15, e16, hf⟩ := ob hf
      obtain ⟨x17, h13, e14, hf⟩ := ob1 hf
      refine ml_callV (ci := 4) (mc' := 0) (ms' := 0) [vi v3] dX8_empty_27 mk_X4_emptyIn lk_RX8_167 im_X4_emptyIn se_X4_emptyIn (by decide) e16 rfl (Nat.le_of_ble_eq_true rfl) (Nat.le_of_ble_eq_true rfl) (t_X4_emptyIn E _ e14 isR_rfl) ?_
      obtain ⟨rfl, rfl⟩ := y1 hf
      exact mw_ireturn dX8_empty_30 rfl rfl hk
    · rw [if_pos c10] at hf
      refine mw_iconst (v := (-1)) dX8_empty_20 (by decide) ?_
      obtain ⟨rfl, rfl⟩ := y1 hf
      exact mw_ireturn dX8_empty_21 rfl rfl hk
def f_X8_end (a0 : Nat) (v1 : Int32) (h : Hp) : Option (Int32 × Hp) :=
  if v1 < (0 : Int32) then
    some ((-1), h)
  else
    (getQ h (some a0) 7 0).bind fun x2 =>
    (getI h x2 2 1).bind fun x4 =>
    if v1 ≤ x4 then
      (getQ h (some a0) 7 0).bind fun x7 =>
      (putI h x7 2 1 v1).bind fun h9 =>
      some (v1, h9)
    else
      some ((-1), h)
set_option maxHeartbeats 4000000 in
theorem t_X8_end (E : En) (d : Nat) {mc ms : Nat} {a0 : Nat} {v1 : Int32} {h h' : Hp} {r : Int32} {K : Option Vv → Hp → Prop} (hf : f_X8_end a0 v1 h = some (r, h')) (hk : K (some (vi r)) h') : MC E m_X8_end (d + 0) mc ms [vq (some a0), vi v1] h K := by
  unfold f_X8_end at hf
  show MW E m_X8_end (d + 0) mc ms 0 [some (vq (some a0)), some (vi v1)] [] h K
  refine mw_iload_n (x := v1) dX8_end_0 rfl ?_
  refine mw_if_lt (tgt := 15) dX8_end_1 rfl (fun c1 => ?_) (fun c1 => ?_)
  · rw [if_pos c1] at hf
    refine mw_iconst (v := (-1)) dX8_end_15 (by decide) ?_
    obtain ⟨rfl, rfl⟩ := y1 hf
    exact mw_ireturn dX8_end_16 rfl rfl hk
  · rw [if_neg c1] at hf
    refine mw_iload_n (x := v1) dX8_end_4 rfl ?_
    refine mw_aload_n (x := (some a0)) dX8_end_5 rfl ?_
    obtain ⟨x2, e3, hf⟩ := ob hf
    refine ml_getQ dX8_end_6 fl_RX8_10 rfl e3 ?_
    obtain ⟨x4, e5, hf⟩ := ob hf
    refine ml_getI dX8_end_9 fl_RX8_60 rfl e5 ?_
    refine mw_icmp_le (tgt := 17) dX8_end_12 rfl (fun c6 => ?_) (fun c6 => ?_)
    · rw [if_pos c6] at hf
      refine mw_aload_n (x := (some a0)) dX8_end_17 rfl ?_
      obtain ⟨x7, e8, hf⟩ := ob hf
      refine ml_getQ dX8_end_18 fl_RX8_10 rfl e8 ?_
      refine mw_iload_n (x := v1) dX8_end_21 rfl ?_
      obtain ⟨h9, e10, hf⟩ := ob hf
      refine ml_putI dX8_end_22 fl_RX8_60 (Or.inl rfl) rfl rfl e10 ?_
      refine mw_iload_n (x := v1) dX8_end_25 rfl ?_
      obtain ⟨rfl, rfl⟩ := y1 hf
      exact mw_ireturn dX8_end_26 rfl rfl hk
    · rw [if_neg c6] at hf
      refine mw_iconst (v := (-1)) dX8_end_15 (by decide) ?_
      obtain ⟨rfl, rfl⟩ := y1 hf
      exact mw_ireturn dX8_end_16 rfl rfl hk
def f_X8_fault (a0 : Nat) (v1 : Int32) (h : Hp) : Option (Int32 × Hp) :=
  if v1 = (0 : Int32) then
    (getQ h (some a0) 7 0).bind fun x14 =>
    (getI h x14 2 12).bind fun x16 =>
    some (x16, h)
  else
    b1 ((if v1 = (1 : Int32) then
        (getQ h (some a0) 7 0).bind fun x7 =>
        (getI h x7 2 13).bind fun x9 =>
        some (x9, h)
      else
        some ((-1), h) : Option (Int32 × Hp))) fun w11 h12 =>
    some (w11, h12)
set_option maxHeartbeats 4000000 in
theorem t_X8_fault (E : En) (d : Nat) {mc ms : Nat} {a0 : Nat} {v1 : Int32} {h h' : Hp} {r : Int32} {K : Option Vv → Hp → Prop} (hf : f_X8_fault a0 v1 h = some (r, h')) (hk : K (some (vi r)) h') : MC E m_X8_fault (d + 0) mc ms [vq (some a0), vi v1] h K := by
  unfold f_X8_fault at hf
  show MW E m_X8_fault (d + 0) mc ms 0 [some (vq (some a0)), some (vi v1)] [] h K
  refine mw_iload_n (x := v1) dX8_fault_0 rfl ?_
  refine mw_if_ne (tgt := 12) dX8_fault_1 rfl (fun c1 => ?_) (fun c1 => ?_)
  · rw [if_neg c1] at hf
    refine mw_iload_n (x := v1) dX8_fault_12 rfl ?_
    refine mw_iconst (v := 1) dX8_fault_13 (by decide) ?_
    obtain ⟨w11, h12, r13, hf⟩ := ob1 hf
    have J18 : MW E m_X8_fault (d + 0) mc ms 28 [none, none] [vi w11] h12 K := by
      obtain ⟨rfl, rfl⟩ := y1 hf
      exact mw_ireturn dX8_fault_28 rfl rfl hk
    refine mw_icmp_ne (tgt := 27) dX8_fault_14 rfl (fun c2 => ?_) (fun c2 => ?_)
    · rw [if_neg c2] at r13
      refine mw_iconst (v := (-1)) dX8_fault_27 (by decide) ?_
      obtain ⟨rfl, rfl⟩ := y1 r13
      exact MW.sub (subL_n (subL_n subL_nil)) J18
    · rw [if_pos c2] at r13
      refine mw_aload_n (x := (some a0)) dX8_fault_17 rfl ?_
      obtain ⟨x7, e8, r13⟩ := ob r13
      refine ml_getQ dX8_fault_18 fl_RX8_10 rfl e8 ?_
      obtain ⟨x9, e10, r13⟩ := ob r13
      refine ml_getI dX8_fault_21 fl_RX8_78 rfl e10 ?_
      refine mw_goto (tgt := 28) dX8_fault_24 rfl ?_
      obtain ⟨rfl, rfl⟩ := y1 r13
      exact MW.sub (subL_n (subL_n subL_nil)) J18
  · rw [if_pos c1] at hf
    refine mw_aload_n (x := (some a0)) dX8_fault_4 rfl ?_
    obtain ⟨x14, e15, hf⟩ := ob hf
    refine ml_getQ dX8_fault_5 fl_RX8_10 rfl e15 ?_
    obtain ⟨x16, e17, hf⟩ := ob hf
    refine ml_getI dX8_fault_8 fl_RX8_72 rfl e17 ?_
    obtain ⟨rfl, rfl⟩ := y1 hf
    exact mw_ireturn dX8_fault_11 rfl rfl hk
def f_X8_feed (a0 : Nat) (v1 : Int32) (v2 : Int32) (v3 : Int32) (v4 : Int32) (v5 : Int32) (h : Hp) : Option (Int32 × Hp) :=
  (getQ h (some a0) 7 0).bind fun x1 =>
  (getI h x1 2 1).bind fun x3 =>
  if x3 ≤ (880 : Int32) then
    (getQ h (some a0) 7 0).bind fun x6 =>
    (rc h x6 2).bind fun g10 =>
    (f_X2_putBytes g10 v1 h).bind fun h8 =>
    (getQ h8 (some a0) 7 0).bind fun x12 =>
    (rc h8 x12 2).bind fun g16 =>
    (f_X2_putBytes g16 v2 h8).bind fun h14 =>
    (getQ h14 (some a0) 7 0).bind fun x18 =>
    (rc h14 x18 2).bind fun g22 =>
    (f_X2_putBytes g22 v3 h14).bind fun h20 =>
    (getQ h20 (some a0) 7 0).bind fun x24 =>
    (rc h20 x24 2).bind fun g28 =>
    (f_X2_putBytes g28 v4 h20).bind fun h26 =>
    (getQ h26 (some a0) 7 0).bind fun x30 =>
    (rc h26 x30 2).bind fun g34 =>
    (f_X2_putBytes g34 v5 h26).bind fun h32 =>
    (getQ h32 (some a0) 7 0).bind fun x36 =>
    (getI h32 x36 2 1).bind fun x38 =>
    some (x38, h32)
  else
    some ((-1), h)
set_option maxHeartbeats 4000000 in
theorem t_X8_feed (E : En) (d : Nat) {mc ms : Nat} {a0 : Nat} {v1 : Int32} {v2 : Int32} {v3 : Int32} {v4 : Int32} {v5 : Int32} {h h' : Hp} {r : Int32} {K : Option Vv → Hp → Prop} (hf : f_X8_feed a0 v1 v2 v3 v4 v5 h = some (r, h')) (hk : K (some (vi r)) h') : MC E m_X8_feed (d + 1) mc ms [vq (some a0), vi v1, vi v2, vi v3, vi v4, vi v5] h K := by
  unfold f_X8_feed at hf
  show MW E m_X8_feed (d + 1) mc ms 0 [some (vq (some a0)), some (vi v1), some (vi v2), some (vi v3), some (vi v4), some (vi v5)] [] h K
  refine mw_aload_n (x := (some a0)) dX8_feed_0 rfl ?_
  obtain ⟨x1, e2, hf⟩ := ob hf
  refine ml_getQ dX8_feed_1 fl_RX8_10 rfl e2 ?_
  obtain ⟨x3, e4, hf⟩ := ob hf
  refine ml_getI dX8_feed_4 fl_RX8_60 rfl e4 ?_
  refine mw_sipush (v := 880) dX8_feed_7 (by decide) ?_
  refine mw_icmp_le (tgt := 15) dX8_feed_10 rfl (fun c5 => ?_) (fun c5 => ?_)
  · rw [if_pos c5] at hf
    refine mw_aload_n (x := (some a0)) dX8_feed_15 rfl ?_
    obtain ⟨x6, e7, hf⟩ := ob hf
    refine ml_getQ dX8_feed_16 fl_RX8_10 rfl e7 ?_
    refine mw_iload_n (x := v1) dX8_feed_19 rfl ?_
    obtain ⟨g10, e11, hf⟩ := ob hf
    obtain ⟨h8, e9, hf⟩ := ob hf
    refine ml_callV (ci := 2) (mc' := 0) (ms' := 0) [vi v1] dX8_feed_20 mk_X2_putBytes lk_RX8_64 im_X2_putBytes se_X2_putBytes (by decide) e11 rfl (Nat.le_of_ble_eq_true rfl) (Nat.le_of_ble_eq_true rfl) (t_X2_putBytes E _ e9 isR_rfl) ?_
    refine mw_aload_n (x := (some a0)) dX8_feed_23 rfl ?_
    obtain ⟨x12, e13, hf⟩ := ob hf
    refine ml_getQ dX8_feed_24 fl_RX8_10 rfl e13 ?_
    refine mw_iload_n (x := v2) dX8_feed_27 rfl ?_
    obtain ⟨g16, e17, hf⟩ := ob hf
    obtain ⟨h14, e15, hf⟩ := ob hf
    refine ml_callV (ci := 2) (mc' := 0) (ms' := 0) [vi v2] dX8_feed_28 mk_X2_putBytes lk_RX8_64 im_X2_putBytes se_X2_putBytes (by decide) e17 rfl (Nat.le_of_ble_eq_true rfl) (Nat.le_of_ble_eq_true rfl) (t_X2_putBytes E _ e15 isR_rfl) ?_
    refine mw_aload_n (x := (some a0)) dX8_feed_31 rfl ?_
    obtain ⟨x18, e19, hf⟩ := ob hf
    refine ml_getQ dX8_feed_32 fl_RX8_10 rfl e19 ?_
    refine mw_iload_n (x := v3) dX8_feed_35 rfl ?_
    obtain ⟨g22, e23, hf⟩ := ob hf
    obtain ⟨h20, e21, hf⟩ := ob hf
    refine ml_callV (ci := 2) (mc' := 0) (ms' := 0) [vi v3] dX8_feed_36 mk_X2_putBytes lk_RX8_64 im_X2_putBytes se_X2_putBytes (by decide) e23 rfl (Nat.le_of_ble_eq_true rfl) (Nat.le_of_ble_eq_true rfl) (t_X2_putBytes E _ e21 isR_rfl) ?_
    refine mw_aload_n (x := (some a0)) dX8_feed_39 rfl ?_
    obtain ⟨x24, e25, hf⟩ := ob hf
    refine ml_getQ dX8_feed_40 fl_RX8_10 rfl e25 ?_
    refine mw_iload (x := v4) dX8_feed_43 rfl ?_
    obtain ⟨g28, e29, hf⟩ := ob hf
    obtain ⟨h26, e27, hf⟩ := ob hf
    refine ml_callV (ci := 2) (mc' := 0) (ms' := 0) [vi v4] dX8_feed_45 mk_X2_putBytes lk_RX8_64 im_X2_putBytes se_X2_putBytes (by decide) e29 rfl (Nat.le_of_ble_eq_true rfl) (Nat.le_of_ble_eq_true rfl) (t_X2_putBytes E _ e27 isR_rfl) ?_
    refine mw_aload_n (x := (some a0)) dX8_feed_48 rfl ?_
    obtain ⟨x30, e31, hf⟩ := ob hf
    refine ml_getQ dX8_feed_49 fl_RX8_10 rfl e31 ?_
    refine mw_iload (x := v5) dX8_feed_52 rfl ?_
    obtain ⟨g34, e35, hf⟩ := ob hf
    obtain ⟨h32, e33, hf⟩ := ob hf
    refine ml_callV (ci := 2) (mc' := 0) (ms' := 0) [vi v5] dX8_feed_54 mk_X2_putBytes lk_RX8_64 im_X2_putBytes se_X2_putBytes (by decide) e35 rfl (Nat.le_of_ble_eq_true rfl) (Nat.le_of_ble_eq_true rfl) (t_X2_putBytes E _ e33 isR_rfl) ?_
    refine mw_aload_n (x := (some a0)) dX8_feed_57 rfl ?_
    obtain ⟨x36, e37, hf⟩ := ob hf
    refine ml_getQ dX8_feed_58 fl_RX8_10 rfl e37 ?_
    obtain ⟨x38, e39, hf⟩ := ob hf
    refine ml_getI dX8_feed_61 fl_RX8_60 rfl e39 ?_
    obtain ⟨rfl, rfl⟩ := y1 hf
    exact mw_ireturn dX8_feed_64 rfl rfl hk
  · rw [if_neg c5] at hf
    refine mw_iconst (v := (-1)) dX8_feed_13 (by decide) ?_
    obtain ⟨rfl, rfl⟩ := y1 hf
    exact mw_ireturn dX8_feed_14 rfl rfl hk
def f_X8_isDay (v0 : Int32) (h : Hp) : Option (Int32 × Hp) :=
  b1 (f_X8_within v0 (0 : Int32) (727 : Int32) h) fun x3 h1 =>
  (zok x3).bind fun z4 =>
  some (x3, h1)
set_option maxHeartbeats 4000000 in
theorem t_X8_isDay (E : En) (d : Nat) {mc ms : Nat} {v0 : Int32} {h h' : Hp} {r : Int32} {K : Option Vv → Hp → Prop} (hf : f_X8_isDay v0 h = some (r, h')) (hk : K (some (vi r)) h') : MC E m_X8_isDay (d + 1) mc ms [vi v0] h K := by
  unfold f_X8_isDay at hf
  show MW E m_X8_isDay (d + 1) mc ms 0 [some (vi v0)] [] h K
  refine mw_iload_n (x := v0) dX8_isDay_0 rfl ?_
  refine mw_iconst (v := 0) dX8_isDay_1 (by decide) ?_
  refine mw_sipush (v := 727) dX8_isDay_2 (by decide) ?_
  obtain ⟨x3, h1, e2, hf⟩ := ob1 hf
  refine ml_callS (mc' := 0) (ms' := 0) [vi v0, vi (0 : Int32), vi (727 : Int32)] dX8_isDay_5 mk_X8_within lk_RX8_81 st_X8_within rfl (Nat.le_of_ble_eq_true rfl) (Nat.le_of_ble_eq_true rfl) (t_X8_within E _ e2 isR_rfl) ?_
  obtain ⟨z4, e5, hf⟩ := ob hf
  obtain ⟨rfl, rfl⟩ := y1 hf
  exact mw_ireturn dX8_isDay_8 rfl (zok_of e5) hk
def f_X8_holiday (a0 : Nat) (v1 : Int32) (v2 : Int32) (v3 : Int32) (v4 : Int32) (h : Hp) : Option (Int32 × Hp) :=
  b1 (f_X8_isDay v2 h) fun x3 h1 =>
  b1 ((if x3 = (0 : Int32) then
      some (0, h1)
    else
      b1 (f_X8_within v3 (1 : Int32) (20 : Int32) h1) fun x15 h13 =>
      if x15 = (0 : Int32) then
        some (0, h13)
      else
        b1 (f_X8_within v4 (0 : Int32) (99999 : Int32) h13) fun x19 h17 =>
        if x19 = (0 : Int32) then
          some (0, h17)
        else
          some (1, h17) : Option (Int32 × Hp))) fun w21 h22 =>
  b1 ((if w21 = (0 : Int32) then
      some ((-1), h22)
    else
      (rc h22 (some a0) 7).bind fun g32 =>
      b1 (f_X8_tell g32 (3 : Int32) v1 v2 v3 v4 h22) fun x34 h30 =>
      some (x34, h30) : Option (Int32 × Hp))) fun w35 h36 =>
  some (w35, h36)
set_option maxHeartbeats 4000000 in
theorem t_X8_holiday (E : En) (d : Nat) {a0 : Nat} {v1 : Int32} {v2 : Int32} {v3 : Int32} {v4 : Int32} {h h' : Hp} {r : Int32} {K : Option Vv → Hp → Prop} (hf : f_X8_holiday a0 v1 v2 v3 v4 h = some (r, h')) (hk : K (some (vi r)) h') : MC E m_X8_holiday (d + 3) 1 12 [vq (some a0), vi v1, vi v2, vi v3, vi v4] h K := by
  unfold f_X8_holiday at hf
  show MW E m_X8_holiday (d + 3) 1 12 0 [some (vq (some a0)), some (vi v1), some (vi v2), some (vi v3), some (vi v4), none] [] h K
  refine mw_iload_n (x := v2) dX8_holiday_0 rfl ?_
  obtain ⟨x3, h1, e2, hf⟩ := ob1 hf
  refine ml_callS (mc := 1) (ms := 12) (mc' := 0) (ms' := 0) [vi v2] dX8_holiday_1 mk_X8_isDay lk_RX8_107 st_X8_isDay rfl (Nat.le_of_ble_eq_true rfl) (Nat.le_of_ble_eq_true rfl) (t_X8_isDay E _ e2 isR_rfl) ?_
  obtain ⟨w21, h22, r23, hf⟩ := ob1 hf
  have J38 : MW E m_X8_holiday (d + 3) 1 12 33 [some (vq (some a0)), some (vi v1), some (vi v2), some (vi v3), some (vi v4), none] [vi w21] h22 K := by
    refine mw_istore dX8_holiday_33 (by decide) rfl ?_
    refine mw_iload (x := w21) dX8_holiday_35 rfl ?_
    obtain ⟨w35, h36, r37, hf⟩ := ob1 hf
    have J39 : MW E m_X8_holiday (d + 3) 0 0 54 [none, none, none, none, none, none] [vi w35] h36 K := by
      obtain ⟨rfl, rfl⟩ := y1 hf
      exact mw_ireturn dX8_holiday_54 rfl rfl hk
    refine mw_if_eq (tgt := 53) dX8_holiday_37 rfl (fun c24 => ?_) (fun c24 => ?_)
    · rw [if_pos c24] at r37
      refine mw_iconst (v := (-1)) dX8_holiday_53 (by decide) ?_
      obtain ⟨rfl, rfl⟩ := y1 r37
      exact MW.sub (subL_n (subL_n (subL_n (subL_n (subL_n (subL_n subL_nil)))))) (MW.more (Nat.le_refl _) (by decide) (by decide) J39)
    · rw [if_neg c24] at r37
      refine mw_aload_n (x := (some a0)) dX8_holiday_40 rfl ?_
      refine mw_iconst (v := 3) dX8_holiday_41 (by decide) ?_
      refine mw_iload_n (x := v1) dX8_holiday_42 rfl ?_
      refine mw_iload_n (x := v2) dX8_holiday_43 rfl ?_
      refine mw_iload_n (x := v3) dX8_holiday_44 rfl ?_
      refine mw_iload (x := v4) dX8_holiday_45 rfl ?_
      obtain ⟨g32, e33, r37⟩ := ob r37
      obtain ⟨x34, h30, e31, r37⟩ := ob1 r37
      refine ml_callV (ci := 7) (mc := 0) (ms := 0) (mc' := 1) (ms' := 12) [vi (3 : Int32), vi v1, vi v2, vi v3, vi v4] dX8_holiday_47 mk_X8_tell lk_RX8_95 im_X8_tell se_X8_tell (by decide) e33 rfl (Nat.le_of_ble_eq_true rfl) (Nat.le_of_ble_eq_true rfl) (t_X8_tell E _ e31 isR_rfl) ?_
      refine mw_goto (tgt := 54) dX8_holiday_50 rfl ?_
      obtain ⟨rfl, rfl⟩ := y1 r37
      exact MW.sub (subL_n (subL_n (subL_n (subL_n (subL_n (subL_n subL_nil)))))) (MW.more (Nat.le_refl _) (by decide) (by decide) J39)
  refine mw_if_eq (tgt := 32) dX8_holiday_4 rfl (fun c4 => ?_) (fun c4 => ?_)
  · rw [if_pos c4] at r23
    refine mw_iconst (v := 0) dX8_holiday_32 (by decide) ?_
    obtain ⟨rfl, rfl⟩ := y1 r23
    exact MW.sub (subL_s (subL_s (subL_s (subL_s (subL_s (subL_n subL_nil)))))) (MW.more (Nat.le_refl _) (by decide) (by decide) J38)
  · rw [if_neg c4] at r23
    refine mw_iload_n (x := v3) dX8_holiday_7 rfl ?_
    refine mw_iconst (v := 1) dX8_holiday_8 (by decide) ?_
    refine mw_bipush (v := 20) dX8_holiday_9 (by decide) ?_
    obtain ⟨x15, h13, e14, r23⟩ := ob1 r23
    refine ml_callS (mc := 1) (ms := 12) (mc' := 0) (ms' := 0) [vi v3, vi (1 : Int32), vi (20 : Int32)] dX8_holiday_11 mk_X8_within lk_RX8_81 st_X8_within rfl (Nat.le_of_ble_eq_true rfl) (Nat.le_of_ble_eq_true rfl) (t_X8_within E _ e14 isR_rfl) ?_
    refine mw_if_eq (tgt := 32) dX8_holiday_14 rfl (fun c16 => ?_) (fun c16 => ?_)
    · rw [if_pos c16] at r23
      refine mw_iconst (v := 0) dX8_holiday_32 (by decide) ?_
      obtain ⟨rfl, rfl⟩ := y1 r23
      exact MW.sub (subL_s (subL_s (subL_s (subL_s (subL_s (subL_n subL_nil)))))) (MW.more (Nat.le_refl _) (by decide) (by decide) J38)
    · rw [if_neg c16] at r23
      refine mw_iload (x := v4) dX8_holiday_17 rfl ?_
      refine mw_iconst (v := 0) dX8_holiday_19 (by decide) ?_
      refine mw_ldc dX8_holiday_20 kc_RX8_110 ?_
      obtain ⟨x19, h17, e18, r23⟩ := ob1 r23
      refine ml_callS (mc := 1) (ms := 12) (mc' := 0) (ms' := 0) [vi v4, vi (0 : Int32), vi (99999 : Int32)] dX8_holiday_22 mk_X8_within lk_RX8_81 st_X8_within rfl (Nat.le_of_ble_eq_true rfl) (Nat.le_of_ble_eq_true rfl) (t_X8_within E _ e18 isR_rfl) ?_
      refine mw_if_eq (tgt := 32) dX8_holiday_25 rfl (fun c20 => ?_) (fun c20 => ?_)
      · rw [if_pos c20] at r23
        refine mw_iconst (v := 0) dX8_holiday_32 (by decide) ?_
        obtain ⟨rfl, rfl⟩ := y1 r23
        exact MW.sub (subL_s (subL_s (subL_s (subL_s (subL_s (subL_n subL_nil)))))) (MW.more (Nat.le_refl _) (by decide) (by decide) J38)
      · rw [if_neg c20] at r23
        refine mw_iconst (v := 1) dX8_holiday_28 (by decide) ?_
        refine mw_goto (tgt := 33) dX8_holiday_29 rfl ?_
        obtain ⟨rfl, rfl⟩ := y1 r23
        exact MW.sub (subL_s (subL_s (subL_s (subL_s (subL_s (subL_n subL_nil)))))) (MW.more (Nat.le_refl _) (by decide) (by decide) J38)
def f_X8_init_L98 : Nat → Nat → Option Nat → Int32 → Hp → Option ((Hp))
  | 0, _, _, _, _ => none
  | n + 1, a0, q1, v2, h =>
    (getQ h (some a0) 7 1).bind fun x49 =>
    (aln h x49 13).bind fun x51 =>
    if x51 ≤ v2 then
      some h
    else
      (getQ h (some a0) 7 1).bind fun x54 =>
      (wrQ h x54 13 v2 q1).bind fun h56 =>
      f_X8_init_L98 n a0 q1 (v2 + 1) h56
def f_X8_init (a0 : Nat) (h : Hp) : Option (Hp) :=
  (rc h (some a0) 7).bind fun g1 =>
  (rc (nw h 2 0) (some h.1.length) 2).bind fun g5 =>
  (f_X2_init g5 (nw h 2 0)).bind fun h3 =>
  (putQ h3 (some a0) 7 0 (some h.1.length)).bind fun h7 =>
  (nln 4 4).bind fun n9 =>
  (putQ (nw h7 13 n9) (some a0) 7 1 (some h7.1.length)).bind fun h11 =>
  (nln 10 10).bind fun n13 =>
  (putQ (nw h11 16 n13) (some a0) 7 2 (some h11.1.length)).bind fun h15 =>
  (nln 250 250).bind fun n17 =>
  (putQ (nw h15 14 n17) (some a0) 7 4 (some h15.1.length)).bind fun h19 =>
  (rc (nw h19 5 0) (some h19.1.length) 5).bind fun g23 =>
  (f_X6_init g23 (nw h19 5 0)).bind fun h21 =>
  (putQ h21 (some a0) 7 7 (some h19.1.length)).bind fun h25 =>
  (rc (nw h25 4 0) (some h25.1.length) 4).bind fun g29 =>
  (f_X4_init g29 (nw h25 4 0)).bind fun h27 =>
  (putQ h27 (some a0) 7 8 (some h25.1.length)).bind fun h31 =>
  (nln 10 10).bind fun n33 =>
  (putQ (nw h31 11 n33) (some a0) 7 9 (some h31.1.length)).bind fun h35 =>
  (nln 10 10).bind fun n37 =>
  (putQ (nw h35 10 n37) (some a0) 7 10 (some h35.1.length)).bind fun h39 =>
  (nln 32 32).bind fun n41 =>
  (putQ (nw h39 11 n41) (some a0) 7 11 (some h39.1.length)).bind fun h43 =>
  (rc (nw h43 0 0) (some h43.1.length) 0).bind fun g47 =>
  (f_X0_init g47 (nw h43 0 0)).bind fun h45 =>
  (f_X8_init_L98 fu a0 (some h43.1.length) 0 h45).bind fun h58 =>
  some h58
set_option maxHeartbeats 4000000 in
theorem tl_X8_init_98 (E : En) (d : Nat) {mc ms : Nat} {K : Option Vv → Hp → Prop} : ∀ (n : Nat) (a0 : Nat) (q1 : Option Nat) (v2 : Int32) (h : Hp) (hz : Hp), f_X8_init_L98 n a0 q1 v2 h = some hz → MW E m_X8_init (d + 3) mc ms 120 [none, none, none] [] hz K → MW E m_X8_init (d + 3) mc ms 98 [some (vq (some a0)), some (vq q1), some (vi v2)] [] h K := by
  intro n
  induction n with
  | zero => intro a0 q1 v2 h hz hf; exact nomatch (show none = some _ from hf)
  | succ n ih =>
    intro a0 q1 v2 h hz hf hX120
    rw [f_X8_init_L98] at hf
    refine mw_iload_n (x := v2) dX8_init_98 rfl ?_
    refine mw_aload_n (x := (some a0)) dX8_init_99 rfl ?_
    obtain ⟨x49, e50, hf⟩ := ob hf
    refine ml_getQ dX8_init_100 fl_RX8_18 rfl e50 ?_
    obtain ⟨x51, e52, hf⟩ := ob hf
    refine ml_alen dX8_init_103 e52 (by decide) (by decide) ?_
    refine mw_icmp_ge (tgt := 120) dX8_init_104 rfl (fun c53 => ?_) (fun c53 => ?_)
    · rw [if_pos c53] at hf
      obtain rfl := y0 hf
      exact MW.sub (subL_n (subL_n (subL_n subL_nil))) hX120
    · rw [if_neg c53] at hf
      refine mw_aload_n (x := (some a0)) dX8_init_107 rfl ?_
      obtain ⟨x54, e55, hf⟩ := ob hf
      refine ml_getQ dX8_init_108 fl_RX8_18 rfl e55 ?_
      refine mw_iload_n (x := v2) dX8_init_111 rfl ?_
      refine mw_aload_n (x := q1) dX8_init_112 rfl ?_
      obtain ⟨h56, e57, hf⟩ := ob hf
      refine ml_aast dX8_init_113 e57 (by decide) (by decide) ?_
      refine mw_iinc (x := v2) (v := v2 + 1) dX8_init_114 rfl rfl (by decide) rfl ?_
      refine mw_goto (tgt := 98) dX8_init_117 rfl ?_
      exact MW.sub (subL_s (subL_s (subL_s subL_nil))) (ih _ _ _ _ _ hf hX120)
set_option maxHeartbeats 4000000 in
theorem t_X8_init (E : En) (d : Nat) {a0 : Nat} {h h' : Hp} {K : Option Vv → Hp → Prop} (hf : f_X8_init a0 h = some h') (hk : K none h') : MC E m_X8_init (d + 3) 36 5508 [vq (some a0)] h K := by
  unfold f_X8_init at hf
  show MW E m_X8_init (d + 3) 36 5508 0 [some (vq (some a0)), none, none] [] h K
  refine mw_aload_n (x := (some a0)) dX8_init_0 rfl ?_
  obtain ⟨g1, e2, hf⟩ := ob hf
  refine ml_objInit dX8_init_1 lk_RX8_1 oi_im oi_cd e2 (Nat.le_of_ble_eq_true rfl) ?_
  refine mw_aload_n (x := (some a0)) dX8_init_4 rfl ?_
  refine mw_new (ci := 2) (mc := 35) (ms := 5494) dX8_init_5 (by decide) cl_RX8_7 it_2 in_2 ?_
  refine mw_dupq dX8_init_8 ?_
  obtain ⟨g5, e6, hf⟩ := ob hf
  obtain ⟨h3, e4, hf⟩ := ob hf
  refine ml_callIN (mc := 31) (ms := 1892) (mc' := 4) (ms' := 3602) [] dX8_init_9 mk_X2_init rfl lk_RX8_9 im_X2_init rfl e6 rfl (Nat.le_of_ble_eq_true rfl) (Nat.le_of_ble_eq_true rfl) (t_X2_init E _ e4 isR_rfl) ?_
  obtain ⟨h7, e8, hf⟩ := ob hf
  refine ml_putQ dX8_init_12 fl_RX8_10 (Or.inr ⟨rfl, rfl, rfl⟩) rfl (Or.inl ⟨_, rfl⟩) e8 ?_
  refine mw_aload_n (x := (some a0)) dX8_init_15 rfl ?_
  refine mw_iconst (v := 4) dX8_init_16 (by decide) ?_
  obtain ⟨n9, e10, hf⟩ := ob hf
  refine ml_anew (kd := 13) (most := 4) (mc := 30) (ms := 1888) dX8_init_17 (by decide) (by decide) cl_RX8_16 (by decide) e10 ?_
  obtain ⟨h11, e12, hf⟩ := ob hf
  refine ml_putQ dX8_init_20 fl_RX8_18 (Or.inr ⟨rfl, rfl, rfl⟩) rfl (Or.inr ⟨_, rfl⟩) e12 ?_
  refine mw_aload_n (x := (some a0)) dX8_init_23 rfl ?_
  refine mw_bipush (v := 10) dX8_init_24 (by decide) ?_
  obtain ⟨n13, e14, hf⟩ := ob hf
  refine ml_anew (kd := 16) (most := 10) (mc := 29) (ms := 1878) dX8_init_26 (by decide) (by decide) cl_RX8_22 (by decide) e14 ?_
  obtain ⟨h15, e16, hf⟩ := ob hf
  refine ml_putQ dX8_init_29 fl_RX8_24 (Or.inr ⟨rfl, rfl, rfl⟩) rfl (Or.inr ⟨_, rfl⟩) e16 ?_
  refine mw_aload_n (x := (some a0)) dX8_init_32 rfl ?_
  refine mw_sipush (v := 250) dX8_init_33 (by decide) ?_
  obtain ⟨n17, e18, hf⟩ := ob hf
  refine ml_anew (kd := 14) (most := 250) (mc := 28) (ms := 1628) dX8_init_36 (by decide) (by decide) cl_RX8_28 (by decide) e18 ?_
  obtain ⟨h19, e20, hf⟩ := ob hf
  refine ml_putQ dX8_init_39 fl_RX8_30 (Or.inr ⟨rfl, rfl, rfl⟩) rfl (Or.inr ⟨_, rfl⟩) e20 ?_
  refine mw_aload_n (x := (some a0)) dX8_init_42 rfl ?_
  refine mw_new (ci := 5) (mc := 27) (ms := 1616) dX8_init_43 (by decide) cl_RX8_34 it_5 in_5 ?_
  refine mw_dupq dX8_init_46 ?_
  obtain ⟨g23, e24, hf⟩ := ob hf
  obtain ⟨h21, e22, hf⟩ := ob hf
  refine ml_callIN (mc := 18) (ms := 1381) (mc' := 9) (ms' := 235) [] dX8_init_47 mk_X6_init rfl lk_RX8_36 im_X6_init rfl e24 rfl (Nat.le_of_ble_eq_true rfl) (Nat.le_of_ble_eq_true rfl) (t_X6_init E _ e22 isR_rfl) ?_
  obtain ⟨h25, e26, hf⟩ := ob hf
  refine ml_putQ dX8_init_50 fl_RX8_37 (Or.inr ⟨rfl, rfl, rfl⟩) rfl (Or.inl ⟨_, rfl⟩) e26 ?_
  refine mw_aload_n (x := (some a0)) dX8_init_53 rfl ?_
  refine mw_new (ci := 4) (mc := 17) (ms := 1364) dX8_init_54 (by decide) cl_RX8_41 it_4 in_4 ?_
  refine mw_dupq dX8_init_57 ?_
  obtain ⟨g29, e30, hf⟩ := ob hf
  obtain ⟨h27, e28, hf⟩ := ob hf
  refine ml_callIN (mc := 7) (ms := 75) (mc' := 10) (ms' := 1289) [] dX8_init_58 mk_X4_init rfl lk_RX8_43 im_X4_init rfl e30 rfl (Nat.le_of_ble_eq_true rfl) (Nat.le_of_ble_eq_true rfl) (t_X4_init E _ e28 isR_rfl) ?_
  obtain ⟨h31, e32, hf⟩ := ob hf
  refine ml_putQ dX8_init_61 fl_RX8_44 (Or.inr ⟨rfl, rfl, rfl⟩) rfl (Or.inl ⟨_, rfl⟩) e32 ?_
  refine mw_aload_n (x := (some a0)) dX8_init_64 rfl ?_
  refine mw_bipush (v := 10) dX8_init_65 (by decide) ?_
  obtain ⟨n33, e34, hf⟩ := ob hf
  refine ml_newa (kd := 11) (most := 10) (mc := 6) (ms := 65) dX8_init_67 rfl (by decide) ac_long (by decide) e34 ?_
  obtain ⟨h35, e36, hf⟩ := ob hf
  refine ml_putQ dX8_init_69 fl_RX8_48 (Or.inr ⟨rfl, rfl, rfl⟩) rfl (Or.inr ⟨_, rfl⟩) e36 ?_
  refine mw_aload_n (x := (some a0)) dX8_init_72 rfl ?_
  refine mw_bipush (v := 10) dX8_init_73 (by decide) ?_
  obtain ⟨n37, e38, hf⟩ := ob hf
  refine ml_newa (kd := 10) (most := 10) (mc := 5) (ms := 55) dX8_init_75 rfl (by decide) ac_int (by decide) e38 ?_
  obtain ⟨h39, e40, hf⟩ := ob hf
  refine ml_putQ dX8_init_77 fl_RX8_52 (Or.inr ⟨rfl, rfl, rfl⟩) rfl (Or.inr ⟨_, rfl⟩) e40 ?_
  refine mw_aload_n (x := (some a0)) dX8_init_80 rfl ?_
  refine mw_bipush (v := 32) dX8_init_81 (by decide) ?_
  obtain ⟨n41, e42, hf⟩ := ob hf
  refine ml_newa (kd := 11) (most := 32) (mc := 4) (ms := 23) dX8_init_83 rfl (by decide) ac_long (by decide) e42 ?_
  obtain ⟨h43, e44, hf⟩ := ob hf
  refine ml_putQ dX8_init_85 fl_RX8_56 (Or.inr ⟨rfl, rfl, rfl⟩) rfl (Or.inr ⟨_, rfl⟩) e44 ?_
  refine mw_new (ci := 0) (mc := 3) (ms := 17) dX8_init_88 (by decide) cl_RX8_16 it_0 in_0 ?_
  refine mw_dupq dX8_init_91 ?_
  obtain ⟨g47, e48, hf⟩ := ob hf
  obtain ⟨h45, e46, hf⟩ := ob hf
  refine ml_callIN (mc := 0) (ms := 0) (mc' := 3) (ms' := 17) [] dX8_init_92 mk_X0_init rfl lk_RX8_59 im_X0_init rfl e48 rfl (Nat.le_of_ble_eq_true rfl) (Nat.le_of_ble_eq_true rfl) (t_X0_init E _ e46 isR_rfl) ?_
  refine mw_astore_n dX8_init_95 (by decide) rfl ?_
  refine mw_iconst (v := 0) dX8_init_96 (by decide) ?_
  refine mw_istore_n dX8_init_97 (by decide) rfl ?_
  obtain ⟨h58, e59, hf⟩ := ob hf
  refine MW.sub (subL_s (subL_s (subL_s subL_nil))) (tl_X8_init_98 E d _ _ _ _ _ _ e59 ?_)
  obtain rfl := y0 hf
  exact mw_return dX8_init_120 rfl hk
def f_X8_later (a0 : Nat) (v1 : Int32) (h : Hp) : Option (Int32 × Hp) :=
  b1 (f_X8_within v1 (0 : Int32) (1000 : Int32) h) fun x3 h1 =>
  if x3 = (0 : Int32) then
    some ((-1), h1)
  else
    (getI h1 (some a0) 7 6).bind fun x5 =>
    if (x5 + v1) ≤ (100000 : Int32) then
      (getI h1 (some a0) 7 6).bind fun x8 =>
      (putI h1 (some a0) 7 6 (x8 + v1)).bind fun h10 =>
      (getI h10 (some a0) 7 6).bind fun x12 =>
      some (x12, h10)
    else
      some ((-1), h1)
set_option maxHeartbeats 4000000 in
theorem t_X8_later (E : En) (d : Nat) {mc ms : Nat} {a0 : Nat} {v1 : Int32} {h h' : Hp} {r : Int32} {K : Option Vv → Hp → Prop} (hf : f_X8_later a0 v1 h = some (r, h')) (hk : K (some (vi r)) h') : MC E m_X8_later (d + 1) mc ms [vq (some a0), vi v1] h K := by
  unfold f_X8_later at hf
  show MW E m_X8_later (d + 1) mc ms 0 [some (vq (some a0)), some (vi v1)] [] h K
  refine mw_iload_n (x := v1) dX8_later_0 rfl ?_
  refine mw_iconst (v := 0) dX8_later_1 (by decide) ?_
  refine mw_sipush (v := 1000) dX8_later_2 (by decide) ?_
  obtain ⟨x3, h1, e2, hf⟩ := ob1 hf
  refine ml_callS (mc' := 0) (ms' := 0) [vi v1, vi (0 : Int32), vi (1000 : Int32)] dX8_later_5 mk_X8_within lk_RX8_81 st_X8_within rfl (Nat.le_of_ble_eq_true rfl) (Nat.le_of_ble_eq_true rfl) (t_X8_within E _ e2 isR_rfl) ?_
  refine mw_if_eq (tgt := 22) dX8_later_8 rfl (fun c4 => ?_) (fun c4 => ?_)
  · rw [if_pos c4] at hf
    refine mw_iconst (v := (-1)) dX8_later_22 (by decide) ?_
    obtain ⟨rfl, rfl⟩ := y1 hf
    exact mw_ireturn dX8_later_23 rfl rfl hk
  · rw [if_neg c4] at hf
    refine mw_aload_n (x := (some a0)) dX8_later_11 rfl ?_
    obtain ⟨x5, e6, hf⟩ := ob hf
    refine ml_getI dX8_later_12 fl_RX8_114 rfl e6 ?_
    refine mw_iload_n (x := v1) dX8_later_15 rfl ?_
    refine mw_iadd dX8_later_16 ?_
    refine mw_ldc dX8_later_17 kc_RX8_141 ?_
    refine mw_icmp_le (tgt := 24) dX8_later_19 rfl (fun c7 => ?_) (fun c7 => ?_)
    · rw [if_pos c7] at hf
      refine mw_aload_n (x := (some a0)) dX8_later_24 rfl ?_
      refine mw_dupq dX8_later_25 ?_
      obtain ⟨x8, e9, hf⟩ := ob hf
      refine ml_getI dX8_later_26 fl_RX8_114 rfl e9 ?_
      refine mw_iload_n (x := v1) dX8_later_29 rfl ?_
      refine mw_iadd dX8_later_30 ?_
      obtain ⟨h10, e11, hf⟩ := ob hf
      refine ml_putI dX8_later_31 fl_RX8_114 (Or.inl rfl) rfl rfl e11 ?_
      refine mw_aload_n (x := (some a0)) dX8_later_34 rfl ?_
      obtain ⟨x12, e13, hf⟩ := ob hf
      refine ml_getI dX8_later_35 fl_RX8_114 rfl e13 ?_
      obtain ⟨rfl, rfl⟩ := y1 hf
      exact mw_ireturn dX8_later_38 rfl rfl hk
    · rw [if_neg c7] at hf
      refine mw_iconst (v := (-1)) dX8_later_22 (by decide) ?_
      obtain ⟨rfl, rfl⟩ := y1 hf
      exact mw_ireturn dX8_later_23 rfl rfl hk
def f_X8_link (a0 : Nat) (v1 : Int32) (v2 : Int32) (v3 : Int32) (v4 : Int32) (v5 : Int32) (h : Hp) : Option (Int32 × Hp) :=
  (rc h (some a0) 7).bind fun g3 =>
  b1 (f_X8_openChain g3 v1 v2 v4 v5 h) fun x5 h1 =>
  if x5 = (0 : Int32) then
    some ((-1), h1)
  else
    if v3 < (0 : Int32) then
      some ((-1), h1)
    else
      (getQ h1 (some a0) 7 8).bind fun x8 =>
      (rc h1 x8 4).bind fun g12 =>
      b1 (f_X4_links g12 h1) fun x14 h10 =>
      if v3 < x14 then
        (getQ h10 (some a0) 7 8).bind fun x16 =>
        (getQ h10 (some a0) 7 8).bind fun x18 =>
        (getI h10 x18 4 14).bind fun x20 =>
        (rc h10 x16 4).bind fun g24 =>
        b1 (f_X4_listedAt g24 (x20 - v3) h10) fun x26 h22 =>
        b1 ((if x26 = none then
            some ((-1), h22)
          else
            (getI h22 x26 1 0).bind fun x30 =>
            some (x30, h22) : Option (Int32 × Hp))) fun w32 h33 =>
        some (w32, h33)
      else
        some ((-1), h10)
set_option maxHeartbeats 4000000 in
theorem t_X8_link (E : En) (d : Nat) {mc ms : Nat} {a0 : Nat} {v1 : Int32} {v2 : Int32} {v3 : Int32} {v4 : Int32} {v5 : Int32} {h h' : Hp} {r : Int32} {K : Option Vv → Hp → Prop} (hf : f_X8_link a0 v1 v2 v3 v4 v5 h = some (r, h')) (hk : K (some (vi r)) h') : MC E m_X8_link (d + 7) mc ms [vq (some a0), vi v1, vi v2, vi v3, vi v4, vi v5] h K := by
  unfold f_X8_link at hf
  show MW E m_X8_link (d + 7) mc ms 0 [some (vq (some a0)), some (vi v1), some (vi v2), some (vi v3), some (vi v4), some (vi v5), none] [] h K
  refine mw_aload_n (x := (some a0)) dX8_link_0 rfl ?_
  refine mw_iload_n (x := v1) dX8_link_1 rfl ?_
  refine mw_iload_n (x := v2) dX8_link_2 rfl ?_
  refine mw_iload (x := v4) dX8_link_3 rfl ?_
  refine mw_iload (x := v5) dX8_link_5 rfl ?_
  obtain ⟨g3, e4, hf⟩ := ob hf
  obtain ⟨x5, h1, e2, hf⟩ := ob1 hf
  refine ml_callV (ci := 7) (mc' := 0) (ms' := 0) [vi v1, vi v2, vi v4, vi v5] dX8_link_7 mk_X8_openChain lk_RX8_187 im_X8_openChain se_X8_openChain (by decide) e4 rfl (Nat.le_of_ble_eq_true rfl) (Nat.le_of_ble_eq_true rfl) (t_X8_openChain E _ e2 isR_rfl) ?_
  refine mw_if_eq (tgt := 28) dX8_link_10 rfl (fun c6 => ?_) (fun c6 => ?_)
  · rw [if_pos c6] at hf
    refine mw_iconst (v := (-1)) dX8_link_28 (by decide) ?_
    obtain ⟨rfl, rfl⟩ := y1 hf
    exact mw_ireturn dX8_link_29 rfl rfl hk
  · rw [if_neg c6] at hf
    refine mw_iload_n (x := v3) dX8_link_13 rfl ?_
    refine mw_if_lt (tgt := 28) dX8_link_14 rfl (fun c7 => ?_) (fun c7 => ?_)
    · rw [if_pos c7] at hf
      refine mw_iconst (v := (-1)) dX8_link_28 (by decide) ?_
      obtain ⟨rfl, rfl⟩ := y1 hf
      exact mw_ireturn dX8_link_29 rfl rfl hk
    · rw [if_neg c7] at hf
      refine mw_iload_n (x := v3) dX8_link_17 rfl ?_
      refine mw_aload_n (x := (some a0)) dX8_link_18 rfl ?_
      obtain ⟨x8, e9, hf⟩ := ob hf
      refine ml_getQ dX8_link_19 fl_RX8_44 rfl e9 ?_
      obtain ⟨g12, e13, hf⟩ := ob hf
      obtain ⟨x14, h10, e11, hf⟩ := ob1 hf
      refine ml_callV (ci := 4) (mc' := 0) (ms' := 0) [] dX8_link_22 mk_X4_links lk_RX8_190 im_X4_links se_X4_links (by decide) e13 rfl (Nat.le_of_ble_eq_true rfl) (Nat.le_of_ble_eq_true rfl) (t_X4_links E _ e11 isR_rfl) ?_
      refine mw_icmp_lt (tgt := 30) dX8_link_25 rfl (fun c15 => ?_) (fun c15 => ?_)
      · rw [if_pos c15] at hf
        refine mw_aload_n (x := (some a0)) dX8_link_30 rfl ?_
        obtain ⟨x16, e17, hf⟩ := ob hf
        refine ml_getQ dX8_link_31 fl_RX8_44 rfl e17 ?_
        refine mw_aload_n (x := (some a0)) dX8_link_34 rfl ?_
        obtain ⟨x18, e19, hf⟩ := ob hf
        refine ml_getQ dX8_link_35 fl_RX8_44 rfl e19 ?_
        obtain ⟨x20, e21, hf⟩ := ob hf
        refine ml_getI dX8_link_38 fl_RX8_194 rfl e21 ?_
        refine mw_iload_n (x := v3) dX8_link_41 rfl ?_
        refine mw_isub dX8_link_42 ?_
        obtain ⟨g24, e25, hf⟩ := ob hf
        obtain ⟨x26, h22, e23, hf⟩ := ob1 hf
        refine ml_callV (ci := 4) (mc' := 0) (ms' := 0) [vi (x20 - v3)] dX8_link_43 mk_X4_listedAt lk_RX8_197 im_X4_listedAt se_X4_listedAt (by decide) e25 rfl (Nat.le_of_ble_eq_true rfl) (Nat.le_of_ble_eq_true rfl) (t_X4_listedAt E _ e23 isR_rfl) ?_
        refine mw_astore dX8_link_46 (by decide) rfl ?_
        refine mw_aload (x := x26) dX8_link_48 rfl ?_
        obtain ⟨w32, h33, r34, hf⟩ := ob1 hf
        have J35 : MW E m_X8_link (d + 7) mc ms 62 [none, none, none, none, none, none, none] [vi w32] h33 K := by
          obtain ⟨rfl, rfl⟩ := y1 hf
          exact mw_ireturn dX8_link_62 rfl rfl hk
        refine mw_ifnonnull (tgt := 57) dX8_link_50 rfl (fun c27 => ?_) (fun c27 => ?_)
        · rw [if_neg c27] at r34
          refine mw_aload (x := x26) dX8_link_57 rfl ?_
          obtain ⟨x30, e31, r34⟩ := ob r34
          refine ml_getI dX8_link_59 fl_RX8_127 rfl e31 ?_
          obtain ⟨rfl, rfl⟩ := y1 r34
          exact MW.sub (subL_n (subL_n (subL_n (subL_n (subL_n (subL_n (subL_n subL_nil))))))) J35
        · rw [if_pos c27] at r34
          refine mw_iconst (v := (-1)) dX8_link_53 (by decide) ?_
          refine mw_goto (tgt := 62) dX8_link_54 rfl ?_
          obtain ⟨rfl, rfl⟩ := y1 r34
          exact MW.sub (subL_n (subL_n (subL_n (subL_n (subL_n (subL_n (subL_n subL_nil))))))) J35
      · rw [if_neg c15] at hf
        refine mw_iconst (v := (-1)) dX8_link_28 (by decide) ?_
        obtain ⟨rfl, rfl⟩ := y1 hf
        exact mw_ireturn dX8_link_29 rfl rfl hk
def f_X8_lost (a0 : Nat) (v1 : Int32) (v2 : Int32) (h : Hp) : Option (Int32 × Hp) :=
  b1 (f_X8_isWeek v2 h) fun x3 h1 =>
  b1 ((if x3 = (0 : Int32) then
      some ((-1), h1)
    else
      (rc h1 (some a0) 7).bind fun g12 =>
      b1 (f_X8_tell g12 (1 : Int32) v1 v2 (0 : Int32) (0 : Int32) h1) fun x14 h10 =>
      some (x14, h10) : Option (Int32 × Hp))) fun w15 h16 =>
  some (w15, h16)
set_option maxHeartbeats 4000000 in
theorem t_X8_lost (E : En) (d : Nat) {a0 : Nat} {v1 : Int32} {v2 : Int32} {h h' : Hp} {r : Int32} {K : Option Vv → Hp → Prop} (hf : f_X8_lost a0 v1 v2 h = some (r, h')) (hk : K (some (vi r)) h') : MC E m_X8_lost (d + 3) 1 12 [vq (some a0), vi v1, vi v2] h K := by
  unfold f_X8_lost at hf
  show MW E m_X8_lost (d + 3) 1 12 0 [some (vq (some a0)), some (vi v1), some (vi v2)] [] h K
  refine mw_iload_n (x := v2) dX8_lost_0 rfl ?_
  obtain ⟨x3, h1, e2, hf⟩ := ob1 hf
  refine ml_callS (mc := 1) (ms := 12) (mc' := 0) (ms' := 0) [vi v2] dX8_lost_1 mk_X8_isWeek lk_RX8_91 st_X8_isWeek rfl (Nat.le_of_ble_eq_true rfl) (Nat.le_of_ble_eq_true rfl) (t_X8_isWeek E _ e2 isR_rfl) ?_
  obtain ⟨w15, h16, r17, hf⟩ := ob1 hf
  have J18 : MW E m_X8_lost (d + 3) 0 0 20 [none, none, none] [vi w15] h16 K := by
    obtain ⟨rfl, rfl⟩ := y1 hf
    exact mw_ireturn dX8_lost_20 rfl rfl hk
  refine mw_if_eq (tgt := 19) dX8_lost_4 rfl (fun c4 => ?_) (fun c4 => ?_)
  · rw [if_pos c4] at r17
    refine mw_iconst (v := (-1)) dX8_lost_19 (by decide) ?_
    obtain ⟨rfl, rfl⟩ := y1 r17
    exact MW.sub (subL_n (subL_n (subL_n subL_nil))) (MW.more (Nat.le_refl _) (by decide) (by decide) J18)
  · rw [if_neg c4] at r17
    refine mw_aload_n (x := (some a0)) dX8_lost_7 rfl ?_
    refine mw_iconst (v := 1) dX8_lost_8 (by decide) ?_
    refine mw_iload_n (x := v1) dX8_lost_9 rfl ?_
    refine mw_iload_n (x := v2) dX8_lost_10 rfl ?_
    refine mw_iconst (v := 0) dX8_lost_11 (by decide) ?_
    refine mw_iconst (v := 0) dX8_lost_12 (by decide) ?_
    obtain ⟨g12, e13, r17⟩ := ob r17
    obtain ⟨x14, h10, e11, r17⟩ := ob1 r17
    refine ml_callV (ci := 7) (mc := 0) (ms := 0) (mc' := 1) (ms' := 12) [vi (1 : Int32), vi v1, vi v2, vi (0 : Int32), vi (0 : Int32)] dX8_lost_13 mk_X8_tell lk_RX8_95 im_X8_tell se_X8_tell (by decide) e13 rfl (Nat.le_of_ble_eq_true rfl) (Nat.le_of_ble_eq_true rfl) (t_X8_tell E _ e11 isR_rfl) ?_
    refine mw_goto (tgt := 20) dX8_lost_16 rfl ?_
    obtain ⟨rfl, rfl⟩ := y1 r17
    exact MW.sub (subL_n (subL_n (subL_n subL_nil))) (MW.more (Nat.le_refl _) (by decide) (by decide) J18)
def f_X8_marks (a0 : Nat) (v1 : Int32) (v2 : Int32) (v3 : Int32) (v4 : Int32) (h : Hp) : Option (Int32 × Hp) :=
  (rc h (some a0) 7).bind fun g3 =>
  b1 (f_X8_openSheet g3 v1 v2 v3 v4 h) fun x5 h1 =>
  if x5 = (0 : Int32) then
    some ((-1), h1)
  else
    (getQ h1 (some a0) 7 8).bind fun x7 =>
    (rc h1 x7 4).bind fun g11 =>
    (f_X4_listHolidays g11 v4 h1).bind fun h9 =>
    (getQ h9 (some a0) 7 8).bind fun x13 =>
    (rc h9 x13 4).bind fun g17 =>
    (f_X4_joinClaims g17 v4 h9).bind fun h15 =>
    (getQ h15 (some a0) 7 8).bind fun x19 =>
    (getI h15 x19 4 16).bind fun x21 =>
    some (x21, h15)
set_option maxHeartbeats 4000000 in
theorem t_X8_marks (E : En) (d : Nat) {mc ms : Nat} {a0 : Nat} {v1 : Int32} {v2 : Int32} {v3 : Int32} {v4 : Int32} {h h' : Hp} {r : Int32} {K : Option Vv → Hp → Prop} (hf : f_X8_marks a0 v1 v2 v3 v4 h = some (r, h')) (hk : K (some (vi r)) h') : MC E m_X8_marks (d + 6) mc ms [vq (some a0), vi v1, vi v2, vi v3, vi v4] h K := by
  unfold f_X8_marks at hf
  show MW E m_X8_marks (d + 6) mc ms 0 [some (vq (some a0)), some (vi v1), some (vi v2), some (vi v3), some (vi v4)] [] h K
  refine mw_aload_n (x := (some a0)) dX8_marks_0 rfl ?_
  refine mw_iload_n (x := v1) dX8_marks_1 rfl ?_
  refine mw_iload_n (x := v2) dX8_marks_2 rfl ?_
  refine mw_iload_n (x := v3) dX8_marks_3 rfl ?_
  refine mw_iload (x := v4) dX8_marks_4 rfl ?_
  obtain ⟨g3, e4, hf⟩ := ob hf
  obtain ⟨x5, h1, e2, hf⟩ := ob1 hf
  refine ml_callV (ci := 7) (mc' := 0) (ms' := 0) [vi v1, vi v2, vi v3, vi v4] dX8_marks_6 mk_X8_openSheet lk_RX8_159 im_X8_openSheet se_X8_openSheet (by decide) e4 rfl (Nat.le_of_ble_eq_true rfl) (Nat.le_of_ble_eq_true rfl) (t_X8_openSheet E _ e2 isR_rfl) ?_
  refine mw_if_ne (tgt := 14) dX8_marks_9 rfl (fun c6 => ?_) (fun c6 => ?_)
  · rw [if_neg c6] at hf
    refine mw_aload_n (x := (some a0)) dX8_marks_14 rfl ?_
    obtain ⟨x7, e8, hf⟩ := ob hf
    refine ml_getQ dX8_marks_15 fl_RX8_44 rfl e8 ?_
    refine mw_iload (x := v4) dX8_marks_18 rfl ?_
    obtain ⟨g11, e12, hf⟩ := ob hf
    obtain ⟨h9, e10, hf⟩ := ob hf
    refine ml_callV (ci := 4) (mc' := 0) (ms' := 0) [vi v4] dX8_marks_20 mk_X4_listHolidays lk_RX8_206 im_X4_listHolidays se_X4_listHolidays (by decide) e12 rfl (Nat.le_of_ble_eq_true rfl) (Nat.le_of_ble_eq_true rfl) (t_X4_listHolidays E _ e10 isR_rfl) ?_
    refine mw_aload_n (x := (some a0)) dX8_marks_23 rfl ?_
    obtain ⟨x13, e14, hf⟩ := ob hf
    refine ml_getQ dX8_marks_24 fl_RX8_44 rfl e14 ?_
    refine mw_iload (x := v4) dX8_marks_27 rfl ?_
    obtain ⟨g17, e18, hf⟩ := ob hf
    obtain ⟨h15, e16, hf⟩ := ob hf
    refine ml_callV (ci := 4) (mc' := 0) (ms' := 0) [vi v4] dX8_marks_29 mk_X4_joinClaims lk_RX8_209 im_X4_joinClaims se_X4_joinClaims (by decide) e18 rfl (Nat.le_of_ble_eq_true rfl) (Nat.le_of_ble_eq_true rfl) (t_X4_joinClaims E _ e16 isR_rfl) ?_
    refine mw_aload_n (x := (some a0)) dX8_marks_32 rfl ?_
    obtain ⟨x19, e20, hf⟩ := ob hf
    refine ml_getQ dX8_marks_33 fl_RX8_44 rfl e20 ?_
    obtain ⟨x21, e22, hf⟩ := ob hf
    refine ml_getI dX8_marks_36 fl_RX8_226 rfl e22 ?_
    obtain ⟨rfl, rfl⟩ := y1 hf
    exact mw_ireturn dX8_marks_39 rfl rfl hk
  · rw [if_pos c6] at hf
    refine mw_iconst (v := (-1)) dX8_marks_12 (by decide) ?_
    obtain ⟨rfl, rfl⟩ := y1 hf
    exact mw_ireturn dX8_marks_13 rfl rfl hk
def f_X8_owed (a0 : Nat) (v1 : Int32) (v2 : Int32) (v3 : Int32) (v4 : Int32) (h : Hp) : Option (Int32 × Hp) :=
  (rc h (some a0) 7).bind fun g3 =>
  b1 (f_X8_factOf g3 (3 : Int32) v2 h) fun x5 h1 =>
  if x5 = none then
    some ((-1), h1)
  else
    (getI h1 x5 1 6).bind fun x7 =>
    (rc h1 (some a0) 7).bind fun g11 =>
    b1 (f_X8_openSheet g11 v1 x7 v3 v4 h1) fun x13 h9 =>
    if x13 = (0 : Int32) then
      some ((-1), h9)
    else
      (getQ h9 (some a0) 7 8).bind fun x15 =>
      (rc h9 x15 4).bind fun g19 =>
      b1 (f_X4_owedFor g19 x5 v4 h9) fun x21 h17 =>
      some (x21, h17)
set_option maxHeartbeats 4000000 in
theorem t_X8_owed (E : En) (d : Nat) {mc ms : Nat} {a0 : Nat} {v1 : Int32} {v2 : Int32} {v3 : Int32} {v4 : Int32} {h h' : Hp} {r : Int32} {K : Option Vv → Hp → Prop} (hf : f_X8_owed a0 v1 v2 v3 v4 h = some (r, h')) (hk : K (some (vi r)) h') : MC E m_X8_owed (d + 6) mc ms [vq (some a0), vi v1, vi v2, vi v3, vi v4] h K := by
  unfold f_X8_owed at hf
  show MW E m_X8_owed (d + 6) mc ms 0 [some (vq (some a0)), some (vi v1), some (vi v2), some (vi v3), some (vi v4), none] [] h K
  refine mw_aload_n (x := (some a0)) dX8_owed_0 rfl ?_
  refine mw_iconst (v := 3) dX8_owed_1 (by decide) ?_
  refine mw_iload_n (x := v2) dX8_owed_2 rfl ?_
  obtain ⟨g3, e4, hf⟩ := ob hf
  obtain ⟨x5, h1, e2, hf⟩ := ob1 hf
  refine ml_callV (ci := 7) (mc' := 0) (ms' := 0) [vi (3 : Int32), vi v2] dX8_owed_3 mk_X8_factOf lk_RX8_170 im_X8_factOf se_X8_factOf (by decide) e4 rfl (Nat.le_of_ble_eq_true rfl) (Nat.le_of_ble_eq_true rfl) (t_X8_factOf E _ e2 isR_rfl) ?_
  refine mw_astore dX8_owed_6 (by decide) rfl ?_
  refine mw_aload (x := x5) dX8_owed_8 rfl ?_
  refine mw_ifnull (tgt := 29) dX8_owed_10 rfl (fun c6 => ?_) (fun c6 => ?_)
  · rw [if_pos c6] at hf
    refine mw_iconst (v := (-1)) dX8_owed_29 (by decide) ?_
    obtain ⟨rfl, rfl⟩ := y1 hf
    exact mw_ireturn dX8_owed_30 rfl rfl hk
  · rw [if_neg c6] at hf
    refine mw_aload_n (x := (some a0)) dX8_owed_13 rfl ?_
    refine mw_iload_n (x := v1) dX8_owed_14 rfl ?_
    refine mw_aload (x := x5) dX8_owed_15 rfl ?_
    obtain ⟨x7, e8, hf⟩ := ob hf
    refine ml_getI dX8_owed_17 fl_RX8_120 rfl e8 ?_
    refine mw_iload_n (x := v3) dX8_owed_20 rfl ?_
    refine mw_iload (x := v4) dX8_owed_21 rfl ?_
    obtain ⟨g11, e12, hf⟩ := ob hf
    obtain ⟨x13, h9, e10, hf⟩ := ob1 hf
    refine ml_callV (ci := 7) (mc' := 0) (ms' := 0) [vi v1, vi x7, vi v3, vi v4] dX8_owed_23 mk_X8_openSheet lk_RX8_159 im_X8_openSheet se_X8_openSheet (by decide) e12 rfl (Nat.le_of_ble_eq_true rfl) (Nat.le_of_ble_eq_true rfl) (t_X8_openSheet E _ e10 isR_rfl) ?_
    refine mw_if_ne (tgt := 31) dX8_owed_26 rfl (fun c14 => ?_) (fun c14 => ?_)
    · rw [if_neg c14] at hf
      refine mw_aload_n (x := (some a0)) dX8_owed_31 rfl ?_
      obtain ⟨x15, e16, hf⟩ := ob hf
      refine ml_getQ dX8_owed_32 fl_RX8_44 rfl e16 ?_
      refine mw_aload (x := x5) dX8_owed_35 rfl ?_
      refine mw_iload (x := v4) dX8_owed_37 rfl ?_
      obtain ⟨g19, e20, hf⟩ := ob hf
      obtain ⟨x21, h17, e18, hf⟩ := ob1 hf
      refine ml_callV (ci := 4) (mc' := 0) (ms' := 0) [vq x5, vi v4] dX8_owed_39 mk_X4_owedFor lk_RX8_183 im_X4_owedFor se_X4_owedFor (by decide) e20 rfl (Nat.le_of_ble_eq_true rfl) (Nat.le_of_ble_eq_true rfl) (t_X4_owedFor E _ e18 isR_rfl) ?_
      obtain ⟨rfl, rfl⟩ := y1 hf
      exact mw_ireturn dX8_owed_42 rfl rfl hk
    · rw [if_pos c14] at hf
      refine mw_iconst (v := (-1)) dX8_owed_29 (by decide) ?_
      obtain ⟨rfl, rfl⟩ := y1 hf
      exact mw_ireturn dX8_owed_30 rfl rfl hk
def f_X8_pay (a0 : Nat) (v1 : Int32) (v2 : Int32) (v3 : Int32) (v4 : Int32) (h : Hp) : Option (Int32 × Hp) :=
  b1 (f_X8_isWeek v2 h) fun x3 h1 =>
  b1 ((if x3 = (0 : Int32) then
      some (0, h1)
    else
      b1 (f_X8_within v3 (0 : Int32) (5 : Int32) h1) fun x19 h17 =>
      if x19 = (0 : Int32) then
        some (0, h17)
      else
        b1 ((if v3 = (5 : Int32) then
            some (99, h17)
          else
            some (9999, h17) : Option (Int32 × Hp))) fun w22 h23 =>
        b1 (f_X8_within v4 (0 : Int32) w22 h23) fun x27 h25 =>
        if x27 = (0 : Int32) then
          some (0, h25)
        else
          some (1, h25) : Option (Int32 × Hp))) fun w29 h30 =>
  b1 ((if w29 = (0 : Int32) then
      some ((-1), h30)
    else
      (rc h30 (some a0) 7).bind fun g40 =>
      b1 (f_X8_tell g40 (0 : Int32) v1 v2 v3 v4 h30) fun x42 h38 =>
      some (x42, h38) : Option (Int32 × Hp))) fun w43 h44 =>
  some (w43, h44)
set_option maxHeartbeats 4000000 in
theorem t_X8_pay (E : En) (d : Nat) {a0 : Nat} {v1 : Int32} {v2 : Int32} {v3 : Int32} {v4 : Int32} {h h' : Hp} {r : Int32} {K : Option Vv → Hp → Prop} (hf : f_X8_pay a0 v1 v2 v3 v4 h = some (r, h')) (hk : K (some (vi r)) h') : MC E m_X8_pay (d + 3) 1 12 [vq (some a0), vi v1, vi v2, vi v3, vi v4] h K := by
  unfold f_X8_pay at hf
  show MW E m_X8_pay (d + 3) 1 12 0 [some (vq (some a0)), some (vi v1), some (vi v2), some (vi v3), some (vi v4), none] [] h K
  refine mw_iload_n (x := v2) dX8_pay_0 rfl ?_
  obtain ⟨x3, h1, e2, hf⟩ := ob1 hf
  refine ml_callS (mc := 1) (ms := 12) (mc' := 0) (ms' := 0) [vi v2] dX8_pay_1 mk_X8_isWeek lk_RX8_91 st_X8_isWeek rfl (Nat.le_of_ble_eq_true rfl) (Nat.le_of_ble_eq_true rfl) (t_X8_isWeek E _ e2 isR_rfl) ?_
  obtain ⟨w29, h30, r31, hf⟩ := ob1 hf
  have J46 : MW E m_X8_pay (d + 3) 1 12 43 [some (vq (some a0)), some (vi v1), some (vi v2), some (vi v3), some (vi v4), none] [vi w29] h30 K := by
    refine mw_istore dX8_pay_43 (by decide) rfl ?_
    refine mw_iload (x := w29) dX8_pay_45 rfl ?_
    obtain ⟨w43, h44, r45, hf⟩ := ob1 hf
    have J47 : MW E m_X8_pay (d + 3) 0 0 64 [none, none, none, none, none, none] [vi w43] h44 K := by
      obtain ⟨rfl, rfl⟩ := y1 hf
      exact mw_ireturn dX8_pay_64 rfl rfl hk
    refine mw_if_eq (tgt := 63) dX8_pay_47 rfl (fun c32 => ?_) (fun c32 => ?_)
    · rw [if_pos c32] at r45
      refine mw_iconst (v := (-1)) dX8_pay_63 (by decide) ?_
      obtain ⟨rfl, rfl⟩ := y1 r45
      exact MW.sub (subL_n (subL_n (subL_n (subL_n (subL_n (subL_n subL_nil)))))) (MW.more (Nat.le_refl _) (by decide) (by decide) J47)
    · rw [if_neg c32] at r45
      refine mw_aload_n (x := (some a0)) dX8_pay_50 rfl ?_
      refine mw_iconst (v := 0) dX8_pay_51 (by decide) ?_
      refine mw_iload_n (x := v1) dX8_pay_52 rfl ?_
      refine mw_iload_n (x := v2) dX8_pay_53 rfl ?_
      refine mw_iload_n (x := v3) dX8_pay_54 rfl ?_
      refine mw_iload (x := v4) dX8_pay_55 rfl ?_
      obtain ⟨g40, e41, r45⟩ := ob r45
      obtain ⟨x42, h38, e39, r45⟩ := ob1 r45
      refine ml_callV (ci := 7) (mc := 0) (ms := 0) (mc' := 1) (ms' := 12) [vi (0 : Int32), vi v1, vi v2, vi v3, vi v4] dX8_pay_57 mk_X8_tell lk_RX8_95 im_X8_tell se_X8_tell (by decide) e41 rfl (Nat.le_of_ble_eq_true rfl) (Nat.le_of_ble_eq_true rfl) (t_X8_tell E _ e39 isR_rfl) ?_
      refine mw_goto (tgt := 64) dX8_pay_60 rfl ?_
      obtain ⟨rfl, rfl⟩ := y1 r45
      exact MW.sub (subL_n (subL_n (subL_n (subL_n (subL_n (subL_n subL_nil)))))) (MW.more (Nat.le_refl _) (by decide) (by decide) J47)
  refine mw_if_eq (tgt := 42) dX8_pay_4 rfl (fun c4 => ?_) (fun c4 => ?_)
  · rw [if_pos c4] at r31
    refine mw_iconst (v := 0) dX8_pay_42 (by decide) ?_
    obtain ⟨rfl, rfl⟩ := y1 r31
    exact MW.sub (subL_s (subL_s (subL_s (subL_s (subL_s (subL_n subL_nil)))))) (MW.more (Nat.le_refl _) (by decide) (by decide) J46)
  · rw [if_neg c4] at r31
    refine mw_iload_n (x := v3) dX8_pay_7 rfl ?_
    refine mw_iconst (v := 0) dX8_pay_8 (by decide) ?_
    refine mw_iconst (v := 5) dX8_pay_9 (by decide) ?_
    obtain ⟨x19, h17, e18, r31⟩ := ob1 r31
    refine ml_callS (mc := 1) (ms := 12) (mc' := 0) (ms' := 0) [vi v3, vi (0 : Int32), vi (5 : Int32)] dX8_pay_10 mk_X8_within lk_RX8_81 st_X8_within rfl (Nat.le_of_ble_eq_true rfl) (Nat.le_of_ble_eq_true rfl) (t_X8_within E _ e18 isR_rfl) ?_
    refine mw_if_eq (tgt := 42) dX8_pay_13 rfl (fun c20 => ?_) (fun c20 => ?_)
    · rw [if_pos c20] at r31
      refine mw_iconst (v := 0) dX8_pay_42 (by decide) ?_
      obtain ⟨rfl, rfl⟩ := y1 r31
      exact MW.sub (subL_s (subL_s (subL_s (subL_s (subL_s (subL_n subL_nil)))))) (MW.more (Nat.le_refl _) (by decide) (by decide) J46)
    · rw [if_neg c20] at r31
      refine mw_iload (x := v4) dX8_pay_16 rfl ?_
      refine mw_iconst (v := 0) dX8_pay_18 (by decide) ?_
      refine mw_iload_n (x := v3) dX8_pay_19 rfl ?_
      refine mw_iconst (v := 5) dX8_pay_20 (by decide) ?_
      obtain ⟨w22, h23, r24, r31⟩ := ob1 r31
      have J48 : MW E m_X8_pay (d + 3) 1 12 32 [some (vq (some a0)), some (vi v1), some (vi v2), some (vi v3), some (vi v4), none] [vi w22, vi 0, vi v4] h23 K := by
        obtain ⟨x27, h25, e26, r31⟩ := ob1 r31
        refine ml_callS (mc := 1) (ms := 12) (mc' := 0) (ms' := 0) [vi v4, vi (0 : Int32), vi w22] dX8_pay_32 mk_X8_within lk_RX8_81 st_X8_within rfl (Nat.le_of_ble_eq_true rfl) (Nat.le_of_ble_eq_true rfl) (t_X8_within E _ e26 isR_rfl) ?_
        refine mw_if_eq (tgt := 42) dX8_pay_35 rfl (fun c28 => ?_) (fun c28 => ?_)
        · rw [if_pos c28] at r31
          refine mw_iconst (v := 0) dX8_pay_42 (by decide) ?_
          obtain ⟨rfl, rfl⟩ := y1 r31
          exact MW.sub (subL_s (subL_s (subL_s (subL_s (subL_s (subL_n subL_nil)))))) (MW.more (Nat.le_refl _) (by decide) (by decide) J46)
        · rw [if_neg c28] at r31
          refine mw_iconst (v := 1) dX8_pay_38 (by decide) ?_
          refine mw_goto (tgt := 43) dX8_pay_39 rfl ?_
          obtain ⟨rfl, rfl⟩ := y1 r31
          exact MW.sub (subL_s (subL_s (subL_s (subL_s (subL_s (subL_n subL_nil)))))) (MW.more (Nat.le_refl _) (by decide) (by decide) J46)
      refine mw_icmp_ne (tgt := 29) dX8_pay_21 rfl (fun c21 => ?_) (fun c21 => ?_)
      · rw [if_neg c21] at r24
        refine mw_sipush (v := 9999) dX8_pay_29 (by decide) ?_
        obtain ⟨rfl, rfl⟩ := y1 r24
        exact MW.sub (subL_s (subL_s (subL_s (subL_s (subL_s (subL_n subL_nil)))))) (MW.more (Nat.le_refl _) (by decide) (by decide) J48)
      · rw [if_pos c21] at r24
        refine mw_bipush (v := 99) dX8_pay_24 (by decide) ?_
        refine mw_goto (tgt := 32) dX8_pay_26 rfl ?_
        obtain ⟨rfl, rfl⟩ := y1 r24
        exact MW.sub (subL_s (subL_s (subL_s (subL_s (subL_s (subL_n subL_nil)))))) (MW.more (Nat.le_refl _) (by decide) (by decide) J48)
def f_X8_payout (a0 : Nat) (v1 : Int32) (v2 : Int32) (v3 : Int32) (v4 : Int32) (h : Hp) : Option (Int64 × Hp) :=
  (rc h (some a0) 7).bind fun g3 =>
  b1 (f_X8_openSheet g3 v1 v2 v3 v4 h) fun x5 h1 =>
  if x5 = (0 : Int32) then
    some ((-1), h1)
  else
    (getQ h1 (some a0) 7 8).bind fun x7 =>
    (rc h1 x7 4).bind fun g11 =>
    (f_X4_listHolidays g11 v4 h1).bind fun h9 =>
    (getQ h9 (some a0) 7 8).bind fun x13 =>
    (rc h9 x13 4).bind fun g17 =>
    (f_X4_joinClaims g17 v4 h9).bind fun h15 =>
    (getQ h15 (some a0) 7 8).bind fun x19 =>
    (getJ h15 x19 4 15).bind fun x21 =>
    some (x21, h15)
set_option maxHeartbeats 4000000 in
theorem t_X8_payout (E : En) (d : Nat) {mc ms : Nat} {a0 : Nat} {v1 : Int32} {v2 : Int32} {v3 : Int32} {v4 : Int32} {h h' : Hp} {r : Int64} {K : Option Vv → Hp → Prop} (hf : f_X8_payout a0 v1 v2 v3 v4 h = some (r, h')) (hk : K (some (vl r)) h') : MC E m_X8_payout (d + 6) mc ms [vq (some a0), vi v1, vi v2, vi v3, vi v4] h K := by
  unfold f_X8_payout at hf
  show MW E m_X8_payout (d + 6) mc ms 0 [some (vq (some a0)), some (vi v1), some (vi v2), some (vi v3), some (vi v4)] [] h K
  refine mw_aload_n (x := (some a0)) dX8_payout_0 rfl ?_
  refine mw_iload_n (x := v1) dX8_payout_1 rfl ?_
  refine mw_iload_n (x := v2) dX8_payout_2 rfl ?_
  refine mw_iload_n (x := v3) dX8_payout_3 rfl ?_
  refine mw_iload (x := v4) dX8_payout_4 rfl ?_
  obtain ⟨g3, e4, hf⟩ := ob hf
  obtain ⟨x5, h1, e2, hf⟩ := ob1 hf
  refine ml_callV (ci := 7) (mc' := 0) (ms' := 0) [vi v1, vi v2, vi v3, vi v4] dX8_payout_6 mk_X8_openSheet lk_RX8_159 im_X8_openSheet se_X8_openSheet (by decide) e4 rfl (Nat.le_of_ble_eq_true rfl) (Nat.le_of_ble_eq_true rfl) (t_X8_openSheet E _ e2 isR_rfl) ?_
  refine mw_if_ne (tgt := 16) dX8_payout_9 rfl (fun c6 => ?_) (fun c6 => ?_)
  · rw [if_neg c6] at hf
    refine mw_aload_n (x := (some a0)) dX8_payout_16 rfl ?_
    obtain ⟨x7, e8, hf⟩ := ob hf
    refine ml_getQ dX8_payout_17 fl_RX8_44 rfl e8 ?_
    refine mw_iload (x := v4) dX8_payout_20 rfl ?_
    obtain ⟨g11, e12, hf⟩ := ob hf
    obtain ⟨h9, e10, hf⟩ := ob hf
    refine ml_callV (ci := 4) (mc' := 0) (ms' := 0) [vi v4] dX8_payout_22 mk_X4_listHolidays lk_RX8_206 im_X4_listHolidays se_X4_listHolidays (by decide) e12 rfl (Nat.le_of_ble_eq_true rfl) (Nat.le_of_ble_eq_true rfl) (t_X4_listHolidays E _ e10 isR_rfl) ?_
    refine mw_aload_n (x := (some a0)) dX8_payout_25 rfl ?_
    obtain ⟨x13, e14, hf⟩ := ob hf
    refine ml_getQ dX8_payout_26 fl_RX8_44 rfl e14 ?_
    refine mw_iload (x := v4) dX8_payout_29 rfl ?_
    obtain ⟨g17, e18, hf⟩ := ob hf
    obtain ⟨h15, e16, hf⟩ := ob hf
    refine ml_callV (ci := 4) (mc' := 0) (ms' := 0) [vi v4] dX8_payout_31 mk_X4_joinClaims lk_RX8_209 im_X4_joinClaims se_X4_joinClaims (by decide) e18 rfl (Nat.le_of_ble_eq_true rfl) (Nat.le_of_ble_eq_true rfl) (t_X4_joinClaims E _ e16 isR_rfl) ?_
    refine mw_aload_n (x := (some a0)) dX8_payout_34 rfl ?_
    obtain ⟨x19, e20, hf⟩ := ob hf
    refine ml_getQ dX8_payout_35 fl_RX8_44 rfl e20 ?_
    obtain ⟨x21, e22, hf⟩ := ob hf
    refine ml_getJ dX8_payout_38 fl_RX8_212 rfl e22 ?_
    obtain ⟨rfl, rfl⟩ := y1 hf
    exact mw_lreturn dX8_payout_41 rfl hk
  · rw [if_pos c6] at hf
    refine mw_ldc2 dX8_payout_12 kc_RX8_200 ?_
    obtain ⟨rfl, rfl⟩ := y1 hf
    exact mw_lreturn dX8_payout_15 rfl hk
def f_X8_quarrel (a0 : Nat) (v1 : Int32) (v2 : Int32) (h : Hp) : Option (Int32 × Hp) :=
  (rc h (some a0) 7).bind fun g3 =>
  b1 (f_X8_workerAt g3 v1 h) fun x5 h1 =>
  if x5 = none then
    some ((-2), h1)
  else
    (getQ h1 (some a0) 7 7).bind fun x7 =>
    (rc h1 x5 6).bind fun g11 =>
    (f_X7_layOut g11 v2 x7 h1).bind fun h9 =>
    (getI h9 x5 6 11).bind fun x13 =>
    some (x13, h9)
set_option maxHeartbeats 4000000 in
theorem t_X8_quarrel (E : En) (d : Nat) {mc ms : Nat} {a0 : Nat} {v1 : Int32} {v2 : Int32} {h h' : Hp} {r : Int32} {K : Option Vv → Hp → Prop} (hf : f_X8_quarrel a0 v1 v2 h = some (r, h')) (hk : K (some (vi r)) h') : MC E m_X8_quarrel (d + 5) mc ms [vq (some a0), vi v1, vi v2] h K := by
  unfold f_X8_quarrel at hf
  show MW E m_X8_quarrel (d + 5) mc ms 0 [some (vq (some a0)), some (vi v1), some (vi v2), none] [] h K
  refine mw_aload_n (x := (some a0)) dX8_quarrel_0 rfl ?_
  refine mw_iload_n (x := v1) dX8_quarrel_1 rfl ?_
  obtain ⟨g3, e4, hf⟩ := ob hf
  obtain ⟨x5, h1, e2, hf⟩ := ob1 hf
  refine ml_callV (ci := 7) (mc' := 0) (ms' := 0) [vi v1] dX8_quarrel_2 mk_X8_workerAt lk_RX8_99 im_X8_workerAt se_X8_workerAt (by decide) e4 rfl (Nat.le_of_ble_eq_true rfl) (Nat.le_of_ble_eq_true rfl) (t_X8_workerAt E _ e2 isR_rfl) ?_
  refine mw_astore_n dX8_quarrel_5 (by decide) rfl ?_
  refine mw_aload_n (x := x5) dX8_quarrel_6 rfl ?_
  refine mw_ifnonnull (tgt := 13) dX8_quarrel_7 rfl (fun c6 => ?_) (fun c6 => ?_)
  · rw [if_neg c6] at hf
    refine mw_aload_n (x := x5) dX8_quarrel_13 rfl ?_
    refine mw_iload_n (x := v2) dX8_quarrel_14 rfl ?_
    refine mw_aload_n (x := (some a0)) dX8_quarrel_15 rfl ?_
    obtain ⟨x7, e8, hf⟩ := ob hf
    refine ml_getQ dX8_quarrel_16 fl_RX8_37 rfl e8 ?_
    obtain ⟨g11, e12, hf⟩ := ob hf
    obtain ⟨h9, e10, hf⟩ := ob hf
    refine ml_callV (ci := 6) (mc' := 0) (ms' := 0) [vi v2, vq x7] dX8_quarrel_19 mk_X7_layOut lk_RX8_142 im_X7_layOut se_X7_layOut (by decide) e12 rfl (Nat.le_of_ble_eq_true rfl) (Nat.le_of_ble_eq_true rfl) (t_X7_layOut E _ e10 isR_rfl) ?_
    refine mw_aload_n (x := x5) dX8_quarrel_22 rfl ?_
    obtain ⟨x13, e14, hf⟩ := ob hf
    refine ml_getI dX8_quarrel_23 fl_RX8_156 rfl e14 ?_
    obtain ⟨rfl, rfl⟩ := y1 hf
    exact mw_ireturn dX8_quarrel_26 rfl rfl hk
  · rw [if_pos c6] at hf
    refine mw_bipush (v := (-2)) dX8_quarrel_10 (by decide) ?_
    obtain ⟨rfl, rfl⟩ := y1 hf
    exact mw_ireturn dX8_quarrel_12 rfl rfl hk
def f_X8_weighAll_L6 : Nat → Nat → Int32 → Int32 → Int32 → Int64 → Int32 → Hp → Option ((Int64 × Hp))
  | 0, _, _, _, _, _, _, _ => none
  | n + 1, a0, v1, v2, v3, v4, v6, h =>
    (getQ h (some a0) 7 9).bind fun x1 =>
    (aln h x1 11).bind fun x3 =>
    if x3 ≤ v6 then
      some (v4, h)
    else
      (getQ h (some a0) 7 10).bind fun x6 =>
      (aln h x6 10).bind fun x8 =>
      if x8 ≤ v6 then
        some (v4, h)
      else
        (getQ h (some a0) 7 9).bind fun x11 =>
        (wrJ h x11 v6 0).bind fun h13 =>
        (getQ h13 (some a0) 7 10).bind fun x15 =>
        (wrI h13 x15 v6 0).bind fun h17 =>
        (rc h17 (some a0) 7).bind fun g21 =>
        b1 (f_X8_openSheet g21 v1 v6 v2 v3 h17) fun x23 h19 =>
        Option.bind ((if x23 = (0 : Int32) then
            some h19
          else
            (getQ h19 (some a0) 7 8).bind fun x53 =>
            (rc h19 x53 4).bind fun g57 =>
            (f_X4_listHolidays g57 v3 h19).bind fun h55 =>
            (getQ h55 (some a0) 7 8).bind fun x59 =>
            (rc h55 x59 4).bind fun g63 =>
            (f_X4_joinClaims g63 v3 h55).bind fun h61 =>
            (getQ h61 (some a0) 7 9).bind fun x65 =>
            (getQ h61 (some a0) 7 8).bind fun x67 =>
            (getJ h61 x67 4 15).bind fun x69 =>
            (wrJ h61 x65 v6 x69).bind fun h71 =>
            (getQ h71 (some a0) 7 10).bind fun x73 =>
            (getQ h71 (some a0) 7 8).bind fun x75 =>
            (getI h71 x75 4 16).bind fun x77 =>
            (wrI h71 x73 v6 x77).bind fun h79 =>
            some h79 : Option (Hp))) fun h81 =>
        (getQ h81 (some a0) 7 9).bind fun x83 =>
        (rdJ h81 x83 11 v6).bind fun x85 =>
        f_X8_weighAll_L6 n a0 v1 v2 v3 (v4 + x85) (v6 + 1) h81
def f_X8_weighAll (a0 : Nat) (v1 : Int32) (v2 : Int32) (v3 : Int32) (h : Hp) : Option (Int64 × Hp) :=
  b1 (f_X8_weighAll_L6 fu a0 v1 v2 v3 0 0 h) fun w87 h88 =>
  some (w87, h88)
set_option maxHeartbeats 4000000 in
theorem tl_X8_weighAll_6 (E : En) (d : Nat) {mc ms : Nat} {K : Option Vv → Hp → Prop} : ∀ (n : Nat) (a0 : Nat) (v1 : Int32) (v2 : Int32) (v3 : Int32) (v4 : Int64) (v6 : Int32) (h : Hp) (u4 : Int64) (hz : Hp), f_X8_weighAll_L6 n a0 v1 v2 v3 v4 v6 h = some (u4, hz) → MW E m_X8_weighAll (d + 6) mc ms 116 [none, none, none, none, some (vl u4), none, none] [] hz K → MW E m_X8_weighAll (d + 6) mc ms 6 [some (vq (some a0)), some (vi v1), some (vi v2), some (vi v3), some (vl v4), none, some (vi v6)] [] h K := by
  intro n
  induction n with
  | zero => intro a0 v1 v2 v3 v4 v6 h u4 hz hf; exact nomatch (show none = some _ from hf)
  | succ n ih =>
    intro a0 v1 v2 v3 v4 v6 h u4 hz hf hX116
    rw [f_X8_weighAll_L6] at hf
    refine mw_iload (x := v6) dX8_weighAll_6 rfl ?_
    refine mw_aload_n (x := (some a0)) dX8_weighAll_8 rfl ?_
    obtain ⟨x1, e2, hf⟩ := ob hf
    refine ml_getQ dX8_weighAll_9 fl_RX8_48 rfl e2 ?_
    obtain ⟨x3, e4, hf⟩ := ob hf
    refine ml_alen dX8_weighAll_12 e4 (by decide) (by decide) ?_
    refine mw_icmp_ge (tgt := 116) dX8_weighAll_13 rfl (fun c5 => ?_) (fun c5 => ?_)
    · rw [if_pos c5] at hf
      obtain ⟨rfl, rfl⟩ := y1 hf
      exact MW.sub (subL_n (subL_n (subL_n (subL_n (subL_s (subL_n (subL_n subL_nil))))))) hX116
    · rw [if_neg c5] at hf
      refine mw_iload (x := v6) dX8_weighAll_16 rfl ?_
      refine mw_aload_n (x := (some a0)) dX8_weighAll_18 rfl ?_
      obtain ⟨x6, e7, hf⟩ := ob hf
      refine ml_getQ dX8_weighAll_19 fl_RX8_52 rfl e7 ?_
      obtain ⟨x8, e9, hf⟩ := ob hf
      refine ml_alen dX8_weighAll_22 e9 (by decide) (by decide) ?_
      refine mw_icmp_ge (tgt := 116) dX8_weighAll_23 rfl (fun c10 => ?_) (fun c10 => ?_)
      · rw [if_pos c10] at hf
        obtain ⟨rfl, rfl⟩ := y1 hf
        exact MW.sub (subL_n (subL_n (subL_n (subL_n (subL_s (subL_n (subL_n subL_nil))))))) hX116
      · rw [if_neg c10] at hf
        refine mw_aload_n (x := (some a0)) dX8_weighAll_26 rfl ?_
        obtain ⟨x11, e12, hf⟩ := ob hf
        refine ml_getQ dX8_weighAll_27 fl_RX8_48 rfl e12 ?_
        refine mw_iload (x := v6) dX8_weighAll_30 rfl ?_
        refine mw_lconst (v := 0) dX8_weighAll_32 (by decide) ?_
        obtain ⟨h13, e14, hf⟩ := ob hf
        refine ml_last dX8_weighAll_33 e14 ?_
        refine mw_aload_n (x := (some a0)) dX8_weighAll_34 rfl ?_
        obtain ⟨x15, e16, hf⟩ := ob hf
        refine ml_getQ dX8_weighAll_35 fl_RX8_52 rfl e16 ?_
        refine mw_iload (x := v6) dX8_weighAll_38 rfl ?_
        refine mw_iconst (v := 0) dX8_weighAll_40 (by decide) ?_
        obtain ⟨h17, e18, hf⟩ := ob hf
        refine ml_iast dX8_weighAll_41 e18 ?_
        refine mw_aload_n (x := (some a0)) dX8_weighAll_42 rfl ?_
        refine mw_iload_n (x := v1) dX8_weighAll_43 rfl ?_
        refine mw_iload (x := v6) dX8_weighAll_44 rfl ?_
        refine mw_iload_n (x := v2) dX8_weighAll_46 rfl ?_
        refine mw_iload_n (x := v3) dX8_weighAll_47 rfl ?_
        obtain ⟨g21, e22, hf⟩ := ob hf
        obtain ⟨x23, h19, e20, hf⟩ := ob1 hf
        refine ml_callV (ci := 7) (mc' := 0) (ms' := 0) [vi v1, vi v6, vi v2, vi v3] dX8_weighAll_48 mk_X8_openSheet lk_RX8_159 im_X8_openSheet se_X8_openSheet (by decide) e22 rfl (Nat.le_of_ble_eq_true rfl) (Nat.le_of_ble_eq_true rfl) (t_X8_openSheet E _ e20 isR_rfl) ?_
        obtain ⟨h81, r82, hf⟩ := ob hf
        have J91 : MW E m_X8_weighAll (d + 6) mc ms 98 [some (vq (some a0)), some (vi v1), some (vi v2), some (vi v3), some (vl v4), none, some (vi v6)] [] h81 K := by
          refine mw_lload (x := v4) dX8_weighAll_98 rfl ?_
          refine mw_aload_n (x := (some a0)) dX8_weighAll_100 rfl ?_
          obtain ⟨x83, e84, hf⟩ := ob hf
          refine ml_getQ dX8_weighAll_101 fl_RX8_48 rfl e84 ?_
          refine mw_iload (x := v6) dX8_weighAll_104 rfl ?_
          obtain ⟨x85, e86, hf⟩ := ob hf
          refine ml_lald dX8_weighAll_106 e86 ?_
          refine mw_ladd dX8_weighAll_107 ?_
          refine mw_lstore dX8_weighAll_108 (by decide) rfl ?_
          refine mw_iinc (x := v6) (v := v6 + 1) dX8_weighAll_110 rfl rfl (by decide) rfl ?_
          refine mw_goto (tgt := 6) dX8_weighAll_113 rfl ?_
          exact MW.sub (subL_s (subL_s (subL_s (subL_s (subL_s (subL_n (subL_s subL_nil))))))) (ih _ _ _ _ _ _ _ _ _ hf hX116)
        refine mw_if_eq (tgt := 98) dX8_weighAll_51 rfl (fun c24 => ?_) (fun c24 => ?_)
        · rw [if_pos c24] at r82
          obtain rfl := y0 r82
          exact MW.sub (subL_s (subL_s (subL_s (subL_s (subL_s (subL_n (subL_s subL_nil))))))) J91
        · rw [if_neg c24] at r82
          refine mw_aload_n (x := (some a0)) dX8_weighAll_54 rfl ?_
          obtain ⟨x53, e54, r82⟩ := ob r82
          refine ml_getQ dX8_weighAll_55 fl_RX8_44 rfl e54 ?_
          refine mw_iload_n (x := v3) dX8_weighAll_58 rfl ?_
          obtain ⟨g57, e58, r82⟩ := ob r82
          obtain ⟨h55, e56, r82⟩ := ob r82
          refine ml_callV (ci := 4) (mc' := 0) (ms' := 0) [vi v3] dX8_weighAll_59 mk_X4_listHolidays lk_RX8_206 im_X4_listHolidays se_X4_listHolidays (by decide) e58 rfl (Nat.le_of_ble_eq_true rfl) (Nat.le_of_ble_eq_true rfl) (t_X4_listHolidays E _ e56 isR_rfl) ?_
          refine mw_aload_n (x := (some a0)) dX8_weighAll_62 rfl ?_
          obtain ⟨x59, e60, r82⟩ := ob r82
          refine ml_getQ dX8_weighAll_63 fl_RX8_44 rfl e60 ?_
          refine mw_iload_n (x := v3) dX8_weighAll_66 rfl ?_
          obtain ⟨g63, e64, r82⟩ := ob r82
          obtain ⟨h61, e62, r82⟩ := ob r82
          refine ml_callV (ci := 4) (mc' := 0) (ms' := 0) [vi v3] dX8_weighAll_67 mk_X4_joinClaims lk_RX8_209 im_X4_joinClaims se_X4_joinClaims (by decide) e64 rfl (Nat.le_of_ble_eq_true rfl) (Nat.le_of_ble_eq_true rfl) (t_X4_joinClaims E _ e62 isR_rfl) ?_
          refine mw_aload_n (x := (some a0)) dX8_weighAll_70 rfl ?_
          obtain ⟨x65, e66, r82⟩ := ob r82
          refine ml_getQ dX8_weighAll_71 fl_RX8_48 rfl e66 ?_
          refine mw_iload (x := v6) dX8_weighAll_74 rfl ?_
          refine mw_aload_n (x := (some a0)) dX8_weighAll_76 rfl ?_
          obtain ⟨x67, e68, r82⟩ := ob r82
          refine ml_getQ dX8_weighAll_77 fl_RX8_44 rfl e68 ?_
          obtain ⟨x69, e70, r82⟩ := ob r82
          refine ml_getJ dX8_weighAll_80 fl_RX8_212 rfl e70 ?_
          obtain ⟨h71, e72, r82⟩ := ob r82
          refine ml_last dX8_weighAll_83 e72 ?_
          refine mw_aload_n (x := (some a0)) dX8_weighAll_84 rfl ?_
          obtain ⟨x73, e74, r82⟩ := ob r82
          refine ml_getQ dX8_weighAll_85 fl_RX8_52 rfl e74 ?_
          refine mw_iload (x := v6) dX8_weighAll_88 rfl ?_
          refine mw_aload_n (x := (some a0)) dX8_weighAll_90 rfl ?_
          obtain ⟨x75, e76, r82⟩ := ob r82
          refine ml_getQ dX8_weighAll_91 fl_RX8_44 rfl e76 ?_
          obtain ⟨x77, e78, r82⟩ := ob r82
          refine ml_getI dX8_weighAll_94 fl_RX8_226 rfl e78 ?_
          obtain ⟨h79, e80, r82⟩ := ob r82
          refine ml_iast dX8_weighAll_97 e80 ?_
          obtain rfl := y0 r82
          exact MW.sub (subL_s (subL_s (subL_s (subL_s (subL_s (subL_n (subL_s subL_nil))))))) J91
set_option maxHeartbeats 4000000 in
theorem t_X8_weighAll (E : En) (d : Nat) {mc ms : Nat} {a0 : Nat} {v1 : Int32} {v2 : Int32} {v3 : Int32} {h h' : Hp} {r : Int64} {K : Option Vv → Hp → Prop} (hf : f_X8_weighAll a0 v1 v2 v3 h = some (r, h')) (hk : K (some (vl r)) h') : MC E m_X8_weighAll (d + 6) mc ms [vq (some a0), vi v1, vi v2, vi v3] h K := by
  unfold f_X8_weighAll at hf
  show MW E m_X8_weighAll (d + 6) mc ms 0 [some (vq (some a0)), some (vi v1), some (vi v2), some (vi v3), none, none, none] [] h K
  refine mw_lconst (v := 0) dX8_weighAll_0 (by decide) ?_
  refine mw_lstore dX8_weighAll_1 (by decide) rfl ?_
  refine mw_iconst (v := 0) dX8_weighAll_3 (by decide) ?_
  refine mw_istore dX8_weighAll_4 (by decide) rfl ?_
  obtain ⟨w87, h88, e89, hf⟩ := ob1 hf
  refine MW.sub (subL_s (subL_s (subL_s (subL_s (subL_s (subL_n (subL_s subL_nil))))))) (tl_X8_weighAll_6 E d _ _ _ _ _ _ _ _ _ _ e89 ?_)
  refine mw_lload (x := w87) dX8_weighAll_116 rfl ?_
  obtain ⟨rfl, rfl⟩ := y1 hf
  exact mw_lreturn dX8_weighAll_118 rfl hk
def f_X8_quarrels (a0 : Nat) (v1 : Int32) (v2 : Int32) (v3 : Int32) (v4 : Int32) (h : Hp) : Option (Int64 × Hp) :=
  (rc h (some a0) 7).bind fun g3 =>
  b1 (f_X8_shelfAt g3 v1 h) fun x5 h1 =>
  if x5 = none then
    some ((-1000000000000), h1)
  else
    (rc h1 (some a0) 7).bind fun g9 =>
    b1 (f_X8_shelfAt g9 v2 h1) fun x11 h7 =>
    if x11 = none then
      some ((-1000000000000), h7)
    else
      (rc h7 (some a0) 7).bind fun g15 =>
      b1 (f_X8_weighAll g15 v1 v3 v4 h7) fun x17 h13 =>
      (rc h13 (some a0) 7).bind fun g20 =>
      b1 (f_X8_weighAll g20 v2 v3 v4 h13) fun x22 h18 =>
      some ((x17 - x22), h18)
set_option maxHeartbeats 4000000 in
theorem t_X8_quarrels (E : En) (d : Nat) {mc ms : Nat} {a0 : Nat} {v1 : Int32} {v2 : Int32} {v3 : Int32} {v4 : Int32} {h h' : Hp} {r : Int64} {K : Option Vv → Hp → Prop} (hf : f_X8_quarrels a0 v1 v2 v3 v4 h = some (r, h')) (hk : K (some (vl r)) h') : MC E m_X8_quarrels (d + 7) mc ms [vq (some a0), vi v1, vi v2, vi v3, vi v4] h K := by
  unfold f_X8_quarrels at hf
  show MW E m_X8_quarrels (d + 7) mc ms 0 [some (vq (some a0)), some (vi v1), some (vi v2), some (vi v3), some (vi v4), none, none] [] h K
  refine mw_aload_n (x := (some a0)) dX8_quarrels_0 rfl ?_
  refine mw_iload_n (x := v1) dX8_quarrels_1 rfl ?_
  obtain ⟨g3, e4, hf⟩ := ob hf
  obtain ⟨x5, h1, e2, hf⟩ := ob1 hf
  refine ml_callV (ci := 7) (mc' := 0) (ms' := 0) [vi v1] dX8_quarrels_2 mk_X8_shelfAt lk_RX8_216 im_X8_shelfAt se_X8_shelfAt (by decide) e4 rfl (Nat.le_of_ble_eq_true rfl) (Nat.le_of_ble_eq_true rfl) (t_X8_shelfAt E _ e2 isR_rfl) ?_
  refine mw_ifnull (tgt := 16) dX8_quarrels_5 rfl (fun c6 => ?_) (fun c6 => ?_)
  · rw [if_pos c6] at hf
    refine mw_ldc2 dX8_quarrels_16 kc_RX8_220 ?_
    obtain ⟨rfl, rfl⟩ := y1 hf
    exact mw_lreturn dX8_quarrels_19 rfl hk
  · rw [if_neg c6] at hf
    refine mw_aload_n (x := (some a0)) dX8_quarrels_8 rfl ?_
    refine mw_iload_n (x := v2) dX8_quarrels_9 rfl ?_
    obtain ⟨g9, e10, hf⟩ := ob hf
    obtain ⟨x11, h7, e8, hf⟩ := ob1 hf
    refine ml_callV (ci := 7) (mc' := 0) (ms' := 0) [vi v2] dX8_quarrels_10 mk_X8_shelfAt lk_RX8_216 im_X8_shelfAt se_X8_shelfAt (by decide) e10 rfl (Nat.le_of_ble_eq_true rfl) (Nat.le_of_ble_eq_true rfl) (t_X8_shelfAt E _ e8 isR_rfl) ?_
    refine mw_ifnonnull (tgt := 20) dX8_quarrels_13 rfl (fun c12 => ?_) (fun c12 => ?_)
    · rw [if_neg c12] at hf
      refine mw_aload_n (x := (some a0)) dX8_quarrels_20 rfl ?_
      refine mw_iload_n (x := v1) dX8_quarrels_21 rfl ?_
      refine mw_iload_n (x := v3) dX8_quarrels_22 rfl ?_
      refine mw_iload (x := v4) dX8_quarrels_23 rfl ?_
      obtain ⟨g15, e16, hf⟩ := ob hf
      obtain ⟨x17, h13, e14, hf⟩ := ob1 hf
      refine ml_callV (ci := 7) (mc' := 0) (ms' := 0) [vi v1, vi v3, vi v4] dX8_quarrels_25 mk_X8_weighAll lk_RX8_222 im_X8_weighAll se_X8_weighAll (by decide) e16 rfl (Nat.le_of_ble_eq_true rfl) (Nat.le_of_ble_eq_true rfl) (t_X8_weighAll E _ e14 isR_rfl) ?_
      refine mw_lstore dX8_quarrels_28 (by decide) rfl ?_
      refine mw_lload (x := x17) dX8_quarrels_30 rfl ?_
      refine mw_aload_n (x := (some a0)) dX8_quarrels_32 rfl ?_
      refine mw_iload_n (x := v2) dX8_quarrels_33 rfl ?_
      refine mw_iload_n (x := v3) dX8_quarrels_34 rfl ?_
      refine mw_iload (x := v4) dX8_quarrels_35 rfl ?_
      obtain ⟨g20, e21, hf⟩ := ob hf
      obtain ⟨x22, h18, e19, hf⟩ := ob1 hf
      refine ml_callV (ci := 7) (mc' := 0) (ms' := 0) [vi v2, vi v3, vi v4] dX8_quarrels_37 mk_X8_weighAll lk_RX8_222 im_X8_weighAll se_X8_weighAll (by decide) e21 rfl (Nat.le_of_ble_eq_true rfl) (Nat.le_of_ble_eq_true rfl) (t_X8_weighAll E _ e19 isR_rfl) ?_
      refine mw_lsub dX8_quarrels_40 ?_
      obtain ⟨rfl, rfl⟩ := y1 hf
      exact mw_lreturn dX8_quarrels_41 rfl hk
    · rw [if_pos c12] at hf
      refine mw_ldc2 dX8_quarrels_16 kc_RX8_220 ?_
      obtain ⟨rfl, rfl⟩ := y1 hf
      exact mw_lreturn dX8_quarrels_19 rfl hk
def f_X8_settle (a0 : Nat) (v1 : Int32) (v2 : Int32) (v3 : Int32) (h : Hp) : Option (Int32 × Hp) :=
  b1 (f_X8_isDay v2 h) fun x3 h1 =>
  b1 ((if x3 = (0 : Int32) then
      some (0, h1)
    else
      b1 (f_X8_isDay v3 h1) fun x12 h10 =>
      if x12 = (0 : Int32) then
        some (0, h10)
      else
        if v3 < v2 then
          some (0, h10)
        else
          some (1, h10) : Option (Int32 × Hp))) fun w15 h16 =>
  b1 ((if w15 = (0 : Int32) then
      some ((-1), h16)
    else
      (rc h16 (some a0) 7).bind fun g26 =>
      b1 (f_X8_tell g26 (4 : Int32) v1 v2 v3 (0 : Int32) h16) fun x28 h24 =>
      some (x28, h24) : Option (Int32 × Hp))) fun w29 h30 =>
  some (w29, h30)
set_option maxHeartbeats 4000000 in
theorem t_X8_settle (E : En) (d : Nat) {a0 : Nat} {v1 : Int32} {v2 : Int32} {v3 : Int32} {h h' : Hp} {r : Int32} {K : Option Vv → Hp → Prop} (hf : f_X8_settle a0 v1 v2 v3 h = some (r, h')) (hk : K (some (vi r)) h') : MC E m_X8_settle (d + 3) 1 12 [vq (some a0), vi v1, vi v2, vi v3] h K := by
  unfold f_X8_settle at hf
  show MW E m_X8_settle (d + 3) 1 12 0 [some (vq (some a0)), some (vi v1), some (vi v2), some (vi v3), none] [] h K
  refine mw_iload_n (x := v2) dX8_settle_0 rfl ?_
  obtain ⟨x3, h1, e2, hf⟩ := ob1 hf
  refine ml_callS (mc := 1) (ms := 12) (mc' := 0) (ms' := 0) [vi v2] dX8_settle_1 mk_X8_isDay lk_RX8_107 st_X8_isDay rfl (Nat.le_of_ble_eq_true rfl) (Nat.le_of_ble_eq_true rfl) (t_X8_isDay E _ e2 isR_rfl) ?_
  obtain ⟨w15, h16, r17, hf⟩ := ob1 hf
  have J32 : MW E m_X8_settle (d + 3) 1 12 24 [some (vq (some a0)), some (vi v1), some (vi v2), some (vi v3), none] [vi w15] h16 K := by
    refine mw_istore dX8_settle_24 (by decide) rfl ?_
    refine mw_iload (x := w15) dX8_settle_26 rfl ?_
    obtain ⟨w29, h30, r31, hf⟩ := ob1 hf
    have J33 : MW E m_X8_settle (d + 3) 0 0 44 [none, none, none, none, none] [vi w29] h30 K := by
      obtain ⟨rfl, rfl⟩ := y1 hf
      exact mw_ireturn dX8_settle_44 rfl rfl hk
    refine mw_if_eq (tgt := 43) dX8_settle_28 rfl (fun c18 => ?_) (fun c18 => ?_)
    · rw [if_pos c18] at r31
      refine mw_iconst (v := (-1)) dX8_settle_43 (by decide) ?_
      obtain ⟨rfl, rfl⟩ := y1 r31
      exact MW.sub (subL_n (subL_n (subL_n (subL_n (subL_n subL_nil))))) (MW.more (Nat.le_refl _) (by decide) (by decide) J33)
    · rw [if_neg c18] at r31
      refine mw_aload_n (x := (some a0)) dX8_settle_31 rfl ?_
      refine mw_iconst (v := 4) dX8_settle_32 (by decide) ?_
      refine mw_iload_n (x := v1) dX8_settle_33 rfl ?_
      refine mw_iload_n (x := v2) dX8_settle_34 rfl ?_
      refine mw_iload_n (x := v3) dX8_settle_35 rfl ?_
      refine mw_iconst (v := 0) dX8_settle_36 (by decide) ?_
      obtain ⟨g26, e27, r31⟩ := ob r31
      obtain ⟨x28, h24, e25, r31⟩ := ob1 r31
      refine ml_callV (ci := 7) (mc := 0) (ms := 0) (mc' := 1) (ms' := 12) [vi (4 : Int32), vi v1, vi v2, vi v3, vi (0 : Int32)] dX8_settle_37 mk_X8_tell lk_RX8_95 im_X8_tell se_X8_tell (by decide) e27 rfl (Nat.le_of_ble_eq_true rfl) (Nat.le_of_ble_eq_true rfl) (t_X8_tell E _ e25 isR_rfl) ?_
      refine mw_goto (tgt := 44) dX8_settle_40 rfl ?_
      obtain ⟨rfl, rfl⟩ := y1 r31
      exact MW.sub (subL_n (subL_n (subL_n (subL_n (subL_n subL_nil))))) (MW.more (Nat.le_refl _) (by decide) (by decide) J33)
  refine mw_if_eq (tgt := 23) dX8_settle_4 rfl (fun c4 => ?_) (fun c4 => ?_)
  · rw [if_pos c4] at r17
    refine mw_iconst (v := 0) dX8_settle_23 (by decide) ?_
    obtain ⟨rfl, rfl⟩ := y1 r17
    exact MW.sub (subL_s (subL_s (subL_s (subL_s (subL_n subL_nil))))) (MW.more (Nat.le_refl _) (by decide) (by decide) J32)
  · rw [if_neg c4] at r17
    refine mw_iload_n (x := v3) dX8_settle_7 rfl ?_
    obtain ⟨x12, h10, e11, r17⟩ := ob1 r17
    refine ml_callS (mc := 1) (ms := 12) (mc' := 0) (ms' := 0) [vi v3] dX8_settle_8 mk_X8_isDay lk_RX8_107 st_X8_isDay rfl (Nat.le_of_ble_eq_true rfl) (Nat.le_of_ble_eq_true rfl) (t_X8_isDay E _ e11 isR_rfl) ?_
    refine mw_if_eq (tgt := 23) dX8_settle_11 rfl (fun c13 => ?_) (fun c13 => ?_)
    · rw [if_pos c13] at r17
      refine mw_iconst (v := 0) dX8_settle_23 (by decide) ?_
      obtain ⟨rfl, rfl⟩ := y1 r17
      exact MW.sub (subL_s (subL_s (subL_s (subL_s (subL_n subL_nil))))) (MW.more (Nat.le_refl _) (by decide) (by decide) J32)
    · rw [if_neg c13] at r17
      refine mw_iload_n (x := v2) dX8_settle_14 rfl ?_
      refine mw_iload_n (x := v3) dX8_settle_15 rfl ?_
      refine mw_icmp_gt (tgt := 23) dX8_settle_16 rfl (fun c14 => ?_) (fun c14 => ?_)
      · rw [if_pos c14] at r17
        refine mw_iconst (v := 0) dX8_settle_23 (by decide) ?_
        obtain ⟨rfl, rfl⟩ := y1 r17
        exact MW.sub (subL_s (subL_s (subL_s (subL_s (subL_n subL_nil))))) (MW.more (Nat.le_refl _) (by decide) (by decide) J32)
      · rw [if_neg c14] at r17
        refine mw_iconst (v := 1) dX8_settle_19 (by decide) ?_
        refine mw_goto (tgt := 24) dX8_settle_20 rfl ?_
        obtain ⟨rfl, rfl⟩ := y1 r17
        exact MW.sub (subL_s (subL_s (subL_s (subL_s (subL_n subL_nil))))) (MW.more (Nat.le_refl _) (by decide) (by decide) J32)
def f_X8_settles (a0 : Nat) (v1 : Int32) (v2 : Int32) (v3 : Int32) (v4 : Int32) (h : Hp) : Option (Int64 × Hp) :=
  (rc h (some a0) 7).bind fun g3 =>
  b1 (f_X8_shelfAt g3 v1 h) fun x5 h1 =>
  if x5 = none then
    some ((-1), h1)
  else
    b1 (f_X8_within v2 (0 : Int32) (10 : Int32) h1) fun x9 h7 =>
    if x9 = (0 : Int32) then
      some ((-1), h7)
    else
      (rc h7 (some a0) 7).bind fun g13 =>
      b1 (f_X8_weighAll g13 v1 v3 v4 h7) fun x15 h11 =>
      (rc h11 (some a0) 7).bind fun g18 =>
      b1 (f_X8_bestTests g18 v2 h11) fun x20 h16 =>
      (getJ h16 (some a0) 7 12).bind fun x21 =>
      some (x21, h16)
set_option maxHeartbeats 4000000 in
theorem t_X8_settles (E : En) (d : Nat) {mc ms : Nat} {a0 : Nat} {v1 : Int32} {v2 : Int32} {v3 : Int32} {v4 : Int32} {h h' : Hp} {r : Int64} {K : Option Vv → Hp → Prop} (hf : f_X8_settles a0 v1 v2 v3 v4 h = some (r, h')) (hk : K (some (vl r)) h') : MC E m_X8_settles (d + 7) mc ms [vq (some a0), vi v1, vi v2, vi v3, vi v4] h K := by
  unfold f_X8_settles at hf
  show MW E m_X8_settles (d + 7) mc ms 0 [some (vq (some a0)), some (vi v1), some (vi v2), some (vi v3), some (vi v4)] [] h K
  refine mw_aload_n (x := (some a0)) dX8_settles_0 rfl ?_
  refine mw_iload_n (x := v1) dX8_settles_1 rfl ?_
  obtain ⟨g3, e4, hf⟩ := ob hf
  obtain ⟨x5, h1, e2, hf⟩ := ob1 hf
  refine ml_callV (ci := 7) (mc' := 0) (ms' := 0) [vi v1] dX8_settles_2 mk_X8_shelfAt lk_RX8_216 im_X8_shelfAt se_X8_shelfAt (by decide) e4 rfl (Nat.le_of_ble_eq_true rfl) (Nat.le_of_ble_eq_true rfl) (t_X8_shelfAt E _ e2 isR_rfl) ?_
  refine mw_ifnull (tgt := 18) dX8_settles_5 rfl (fun c6 => ?_) (fun c6 => ?_)
  · rw [if_pos c6] at hf
    refine mw_ldc2 dX8_settles_18 kc_RX8_200 ?_
    obtain ⟨rfl, rfl⟩ := y1 hf
    exact mw_lreturn dX8_settles_21 rfl hk
  · rw [if_neg c6] at hf
    refine mw_iload_n (x := v2) dX8_settles_8 rfl ?_
    refine mw_iconst (v := 0) dX8_settles_9 (by decide) ?_
    refine mw_bipush (v := 10) dX8_settles_10 (by decide) ?_
    obtain ⟨x9, h7, e8, hf⟩ := ob1 hf
    refine ml_callS (mc' := 0) (ms' := 0) [vi v2, vi (0 : Int32), vi (10 : Int32)] dX8_settles_12 mk_X8_within lk_RX8_81 st_X8_within rfl (Nat.le_of_ble_eq_true rfl) (Nat.le_of_ble_eq_true rfl) (t_X8_within E _ e8 isR_rfl) ?_
    refine mw_if_ne (tgt := 22) dX8_settles_15 rfl (fun c10 => ?_) (fun c10 => ?_)
    · rw [if_neg c10] at hf
      refine mw_aload_n (x := (some a0)) dX8_settles_22 rfl ?_
      refine mw_iload_n (x := v1) dX8_settles_23 rfl ?_
      refine mw_iload_n (x := v3) dX8_settles_24 rfl ?_
      refine mw_iload (x := v4) dX8_settles_25 rfl ?_
      obtain ⟨g13, e14, hf⟩ := ob hf
      obtain ⟨x15, h11, e12, hf⟩ := ob1 hf
      refine ml_callV (ci := 7) (mc' := 0) (ms' := 0) [vi v1, vi v3, vi v4] dX8_settles_27 mk_X8_weighAll lk_RX8_222 im_X8_weighAll se_X8_weighAll (by decide) e14 rfl (Nat.le_of_ble_eq_true rfl) (Nat.le_of_ble_eq_true rfl) (t_X8_weighAll E _ e12 isR_rfl) ?_
      refine mw_pop2l dX8_settles_30 ?_
      refine mw_aload_n (x := (some a0)) dX8_settles_31 rfl ?_
      refine mw_iload_n (x := v2) dX8_settles_32 rfl ?_
      obtain ⟨g18, e19, hf⟩ := ob hf
      obtain ⟨x20, h16, e17, hf⟩ := ob1 hf
      refine ml_callV (ci := 7) (mc' := 0) (ms' := 0) [vi v2] dX8_settles_33 mk_X8_bestTests lk_RX8_229 im_X8_bestTests se_X8_bestTests (by decide) e19 rfl (Nat.le_of_ble_eq_true rfl) (Nat.le_of_ble_eq_true rfl) (t_X8_bestTests E _ e17 isR_rfl) ?_
      refine mw_popi dX8_settles_36 ?_
      refine mw_aload_n (x := (some a0)) dX8_settles_37 rfl ?_
      obtain ⟨x21, e22, hf⟩ := ob hf
      refine ml_getJ dX8_settles_38 fl_RX8_232 rfl e22 ?_
      obtain ⟨rfl, rfl⟩ := y1 hf
      exact mw_lreturn dX8_settles_41 rfl hk
    · rw [if_pos c10] at hf
      refine mw_ldc2 dX8_settles_18 kc_RX8_200 ?_
      obtain ⟨rfl, rfl⟩ := y1 hf
      exact mw_lreturn dX8_settles_21 rfl hk
def f_X8_span (a0 : Nat) (v1 : Int32) (v2 : Int32) (v3 : Int32) (v4 : Int32) (h : Hp) : Option (Int32 × Hp) :=
  (rc h (some a0) 7).bind fun g3 =>
  b1 (f_X8_workerAt g3 v1 h) fun x5 h1 =>
  if x5 = none then
    some ((-1), h1)
  else
    b1 (f_X8_isWeek v2 h1) fun x9 h7 =>
    if x9 = (0 : Int32) then
      some ((-1), h7)
    else
      (getQ h7 (some a0) 7 7).bind fun x11 =>
      (rc h7 x5 6).bind fun g15 =>
      (f_X7_layOut g15 v4 x11 h7).bind fun h13 =>
      b1 ((if v3 = (0 : Int32) then
          (getQ h13 x5 6 9).bind fun x22 =>
          some (x22, h13)
        else
          (getQ h13 x5 6 10).bind fun x24 =>
          some (x24, h13) : Option (Option Nat × Hp))) fun w26 h27 =>
      b1 (f_X8_at w26 v2 h27) fun x31 h29 =>
      some (x31, h29)
set_option maxHeartbeats 4000000 in
theorem t_X8_span (E : En) (d : Nat) {mc ms : Nat} {a0 : Nat} {v1 : Int32} {v2 : Int32} {v3 : Int32} {v4 : Int32} {h h' : Hp} {r : Int32} {K : Option Vv → Hp → Prop} (hf : f_X8_span a0 v1 v2 v3 v4 h = some (r, h')) (hk : K (some (vi r)) h') : MC E m_X8_span (d + 5) mc ms [vq (some a0), vi v1, vi v2, vi v3, vi v4] h K := by
  unfold f_X8_span at hf
  show MW E m_X8_span (d + 5) mc ms 0 [some (vq (some a0)), some (vi v1), some (vi v2), some (vi v3), some (vi v4), none] [] h K
  refine mw_aload_n (x := (some a0)) dX8_span_0 rfl ?_
  refine mw_iload_n (x := v1) dX8_span_1 rfl ?_
  obtain ⟨g3, e4, hf⟩ := ob hf
  obtain ⟨x5, h1, e2, hf⟩ := ob1 hf
  refine ml_callV (ci := 7) (mc' := 0) (ms' := 0) [vi v1] dX8_span_2 mk_X8_workerAt lk_RX8_99 im_X8_workerAt se_X8_workerAt (by decide) e4 rfl (Nat.le_of_ble_eq_true rfl) (Nat.le_of_ble_eq_true rfl) (t_X8_workerAt E _ e2 isR_rfl) ?_
  refine mw_astore dX8_span_5 (by decide) rfl ?_
  refine mw_aload (x := x5) dX8_span_7 rfl ?_
  refine mw_ifnull (tgt := 19) dX8_span_9 rfl (fun c6 => ?_) (fun c6 => ?_)
  · rw [if_pos c6] at hf
    refine mw_iconst (v := (-1)) dX8_span_19 (by decide) ?_
    obtain ⟨rfl, rfl⟩ := y1 hf
    exact mw_ireturn dX8_span_20 rfl rfl hk
  · rw [if_neg c6] at hf
    refine mw_iload_n (x := v2) dX8_span_12 rfl ?_
    obtain ⟨x9, h7, e8, hf⟩ := ob1 hf
    refine ml_callS (mc' := 0) (ms' := 0) [vi v2] dX8_span_13 mk_X8_isWeek lk_RX8_91 st_X8_isWeek rfl (Nat.le_of_ble_eq_true rfl) (Nat.le_of_ble_eq_true rfl) (t_X8_isWeek E _ e8 isR_rfl) ?_
    refine mw_if_ne (tgt := 21) dX8_span_16 rfl (fun c10 => ?_) (fun c10 => ?_)
    · rw [if_neg c10] at hf
      refine mw_aload (x := x5) dX8_span_21 rfl ?_
      refine mw_iload (x := v4) dX8_span_23 rfl ?_
      refine mw_aload_n (x := (some a0)) dX8_span_25 rfl ?_
      obtain ⟨x11, e12, hf⟩ := ob hf
      refine ml_getQ dX8_span_26 fl_RX8_37 rfl e12 ?_
      obtain ⟨g15, e16, hf⟩ := ob hf
      obtain ⟨h13, e14, hf⟩ := ob hf
      refine ml_callV (ci := 6) (mc' := 0) (ms' := 0) [vi v4, vq x11] dX8_span_29 mk_X7_layOut lk_RX8_142 im_X7_layOut se_X7_layOut (by decide) e16 rfl (Nat.le_of_ble_eq_true rfl) (Nat.le_of_ble_eq_true rfl) (t_X7_layOut E _ e14 isR_rfl) ?_
      refine mw_iload_n (x := v3) dX8_span_32 rfl ?_
      obtain ⟨w26, h27, r28, hf⟩ := ob1 hf
      have J32 : MW E m_X8_span (d + 5) mc ms 49 [none, none, some (vi v2), none, none, none] [vq w26] h27 K := by
        refine mw_iload_n (x := v2) dX8_span_49 rfl ?_
        obtain ⟨x31, h29, e30, hf⟩ := ob1 hf
        refine ml_callS (mc' := 0) (ms' := 0) [vq w26, vi v2] dX8_span_50 mk_X8_at lk_RX8_152 st_X8_at rfl (Nat.le_of_ble_eq_true rfl) (Nat.le_of_ble_eq_true rfl) (t_X8_at E _ e30 isR_rfl) ?_
        obtain ⟨rfl, rfl⟩ := y1 hf
        exact mw_ireturn dX8_span_53 rfl rfl hk
      refine mw_if_eq (tgt := 44) dX8_span_33 rfl (fun c17 => ?_) (fun c17 => ?_)
      · rw [if_pos c17] at r28
        refine mw_aload (x := x5) dX8_span_44 rfl ?_
        obtain ⟨x22, e23, r28⟩ := ob r28
        refine ml_getQ dX8_span_46 fl_RX8_149 rfl e23 ?_
        obtain ⟨rfl, rfl⟩ := y1 r28
        exact MW.sub (subL_n (subL_n (subL_s (subL_n (subL_n (subL_n subL_nil)))))) J32
      · rw [if_neg c17] at r28
        refine mw_aload (x := x5) dX8_span_36 rfl ?_
        obtain ⟨x24, e25, r28⟩ := ob r28
        refine ml_getQ dX8_span_38 fl_RX8_146 rfl e25 ?_
        refine mw_goto (tgt := 49) dX8_span_41 rfl ?_
        obtain ⟨rfl, rfl⟩ := y1 r28
        exact MW.sub (subL_n (subL_n (subL_s (subL_n (subL_n (subL_n subL_nil)))))) J32
    · rw [if_pos c10] at hf
      refine mw_iconst (v := (-1)) dX8_span_19 (by decide) ?_
      obtain ⟨rfl, rfl⟩ := y1 hf
      exact mw_ireturn dX8_span_20 rfl rfl hk
def f_X8_tests (a0 : Nat) (v1 : Int32) (v2 : Int32) (v3 : Int32) (v4 : Int32) (h : Hp) : Option (Int32 × Hp) :=
  (rc h (some a0) 7).bind fun g3 =>
  b1 (f_X8_shelfAt g3 v1 h) fun x5 h1 =>
  if x5 = none then
    some ((-1), h1)
  else
    b1 (f_X8_within v2 (0 : Int32) (10 : Int32) h1) fun x9 h7 =>
    if x9 = (0 : Int32) then
      some ((-1), h7)
    else
      (rc h7 (some a0) 7).bind fun g13 =>
      b1 (f_X8_weighAll g13 v1 v3 v4 h7) fun x15 h11 =>
      (rc h11 (some a0) 7).bind fun g18 =>
      b1 (f_X8_bestTests g18 v2 h11) fun x20 h16 =>
      some (x20, h16)
set_option maxHeartbeats 4000000 in
theorem t_X8_tests (E : En) (d : Nat) {mc ms : Nat} {a0 : Nat} {v1 : Int32} {v2 : Int32} {v3 : Int32} {v4 : Int32} {h h' : Hp} {r : Int32} {K : Option Vv → Hp → Prop} (hf : f_X8_tests a0 v1 v2 v3 v4 h = some (r, h')) (hk : K (some (vi r)) h') : MC E m_X8_tests (d + 7) mc ms [vq (some a0), vi v1, vi v2, vi v3, vi v4] h K := by
  unfold f_X8_tests at hf
  show MW E m_X8_tests (d + 7) mc ms 0 [some (vq (some a0)), some (vi v1), some (vi v2), some (vi v3), some (vi v4)] [] h K
  refine mw_aload_n (x := (some a0)) dX8_tests_0 rfl ?_
  refine mw_iload_n (x := v1) dX8_tests_1 rfl ?_
  obtain ⟨g3, e4, hf⟩ := ob hf
  obtain ⟨x5, h1, e2, hf⟩ := ob1 hf
  refine ml_callV (ci := 7) (mc' := 0) (ms' := 0) [vi v1] dX8_tests_2 mk_X8_shelfAt lk_RX8_216 im_X8_shelfAt se_X8_shelfAt (by decide) e4 rfl (Nat.le_of_ble_eq_true rfl) (Nat.le_of_ble_eq_true rfl) (t_X8_shelfAt E _ e2 isR_rfl) ?_
  refine mw_ifnull (tgt := 18) dX8_tests_5 rfl (fun c6 => ?_) (fun c6 => ?_)
  · rw [if_pos c6] at hf
    refine mw_iconst (v := (-1)) dX8_tests_18 (by decide) ?_
    obtain ⟨rfl, rfl⟩ := y1 hf
    exact mw_ireturn dX8_tests_19 rfl rfl hk
  · rw [if_neg c6] at hf
    refine mw_iload_n (x := v2) dX8_tests_8 rfl ?_
    refine mw_iconst (v := 0) dX8_tests_9 (by decide) ?_
    refine mw_bipush (v := 10) dX8_tests_10 (by decide) ?_
    obtain ⟨x9, h7, e8, hf⟩ := ob1 hf
    refine ml_callS (mc' := 0) (ms' := 0) [vi v2, vi (0 : Int32), vi (10 : Int32)] dX8_tests_12 mk_X8_within lk_RX8_81 st_X8_within rfl (Nat.le_of_ble_eq_true rfl) (Nat.le_of_ble_eq_true rfl) (t_X8_within E _ e8 isR_rfl) ?_
    refine mw_if_ne (tgt := 20) dX8_tests_15 rfl (fun c10 => ?_) (fun c10 => ?_)
    · rw [if_neg c10] at hf
      refine mw_aload_n (x := (some a0)) dX8_tests_20 rfl ?_
      refine mw_iload_n (x := v1) dX8_tests_21 rfl ?_
      refine mw_iload_n (x := v3) dX8_tests_22 rfl ?_
      refine mw_iload (x := v4) dX8_tests_23 rfl ?_
      obtain ⟨g13, e14, hf⟩ := ob hf
      obtain ⟨x15, h11, e12, hf⟩ := ob1 hf
      refine ml_callV (ci := 7) (mc' := 0) (ms' := 0) [vi v1, vi v3, vi v4] dX8_tests_25 mk_X8_weighAll lk_RX8_222 im_X8_weighAll se_X8_weighAll (by decide) e14 rfl (Nat.le_of_ble_eq_true rfl) (Nat.le_of_ble_eq_true rfl) (t_X8_weighAll E _ e12 isR_rfl) ?_
      refine mw_pop2l dX8_tests_28 ?_
      refine mw_aload_n (x := (some a0)) dX8_tests_29 rfl ?_
      refine mw_iload_n (x := v2) dX8_tests_30 rfl ?_
      obtain ⟨g18, e19, hf⟩ := ob hf
      obtain ⟨x20, h16, e17, hf⟩ := ob1 hf
      refine ml_callV (ci := 7) (mc' := 0) (ms' := 0) [vi v2] dX8_tests_31 mk_X8_bestTests lk_RX8_229 im_X8_bestTests se_X8_bestTests (by decide) e19 rfl (Nat.le_of_ble_eq_true rfl) (Nat.le_of_ble_eq_true rfl) (t_X8_bestTests E _ e17 isR_rfl) ?_
      obtain ⟨rfl, rfl⟩ := y1 hf
      exact mw_ireturn dX8_tests_34 rfl rfl hk
    · rw [if_pos c10] at hf
      refine mw_iconst (v := (-1)) dX8_tests_18 (by decide) ?_
      obtain ⟨rfl, rfl⟩ := y1 hf
      exact mw_ireturn dX8_tests_19 rfl rfl hk
def f_X8_untell (a0 : Nat) (v1 : Int32) (h : Hp) : Option (Int32 × Hp) :=
  (rc h (some a0) 7).bind fun g3 =>
  b1 (f_X8_factAt g3 v1 h) fun x5 h1 =>
  if x5 = none then
    some (0, h1)
  else
    (getI h1 x5 1 7).bind fun x7 =>
    if x7 = ((-1) : Int32) then
      (getI h1 (some a0) 7 6).bind fun x10 =>
      (putI h1 x5 1 7 x10).bind fun h12 =>
      (getI h12 x5 1 6).bind fun x14 =>
      (rc h12 (some a0) 7).bind fun g18 =>
      b1 (f_X8_workerAt g18 x14 h12) fun x20 h16 =>
      Option.bind ((if x20 = none then
          some h16
        else
          (putZ h16 x20 6 5 0).bind fun h24 =>
          some h24 : Option (Hp))) fun h26 =>
      some (1, h26)
    else
      some (0, h1)
set_option maxHeartbeats 4000000 in
theorem t_X8_untell (E : En) (d : Nat) {mc ms : Nat} {a0 : Nat} {v1 : Int32} {h h' : Hp} {r : Int32} {K : Option Vv → Hp → Prop} (hf : f_X8_untell a0 v1 h = some (r, h')) (hk : K (some (vi r)) h') : MC E m_X8_untell (d + 1) mc ms [vq (some a0), vi v1] h K := by
  unfold f_X8_untell at hf
  show MW E m_X8_untell (d + 1) mc ms 0 [some (vq (some a0)), some (vi v1), none, none] [] h K
  refine mw_aload_n (x := (some a0)) dX8_untell_0 rfl ?_
  refine mw_iload_n (x := v1) dX8_untell_1 rfl ?_
  obtain ⟨g3, e4, hf⟩ := ob hf
  obtain ⟨x5, h1, e2, hf⟩ := ob1 hf
  refine ml_callV (ci := 7) (mc' := 0) (ms' := 0) [vi v1] dX8_untell_2 mk_X8_factAt lk_RX8_130 im_X8_factAt se_X8_factAt (by decide) e4 rfl (Nat.le_of_ble_eq_true rfl) (Nat.le_of_ble_eq_true rfl) (t_X8_factAt E _ e2 isR_rfl) ?_
  refine mw_astore_n dX8_untell_5 (by decide) rfl ?_
  refine mw_aload_n (x := x5) dX8_untell_6 rfl ?_
  refine mw_ifnull (tgt := 18) dX8_untell_7 rfl (fun c6 => ?_) (fun c6 => ?_)
  · rw [if_pos c6] at hf
    refine mw_iconst (v := 0) dX8_untell_18 (by decide) ?_
    obtain ⟨rfl, rfl⟩ := y1 hf
    exact mw_ireturn dX8_untell_19 rfl rfl hk
  · rw [if_neg c6] at hf
    refine mw_aload_n (x := x5) dX8_untell_10 rfl ?_
    obtain ⟨x7, e8, hf⟩ := ob hf
    refine ml_getI dX8_untell_11 fl_RX8_134 rfl e8 ?_
    refine mw_iconst (v := (-1)) dX8_untell_14 (by decide) ?_
    refine mw_icmp_eq (tgt := 20) dX8_untell_15 rfl (fun c9 => ?_) (fun c9 => ?_)
    · rw [if_pos c9] at hf
      refine mw_aload_n (x := x5) dX8_untell_20 rfl ?_
      refine mw_aload_n (x := (some a0)) dX8_untell_21 rfl ?_
      obtain ⟨x10, e11, hf⟩ := ob hf
      refine ml_getI dX8_untell_22 fl_RX8_114 rfl e11 ?_
      obtain ⟨h12, e13, hf⟩ := ob hf
      refine ml_putI dX8_untell_25 fl_RX8_134 (Or.inl rfl) rfl rfl e13 ?_
      refine mw_aload_n (x := (some a0)) dX8_untell_28 rfl ?_
      refine mw_aload_n (x := x5) dX8_untell_29 rfl ?_
      obtain ⟨x14, e15, hf⟩ := ob hf
      refine ml_getI dX8_untell_30 fl_RX8_120 rfl e15 ?_
      obtain ⟨g18, e19, hf⟩ := ob hf
      obtain ⟨x20, h16, e17, hf⟩ := ob1 hf
      refine ml_callV (ci := 7) (mc' := 0) (ms' := 0) [vi x14] dX8_untell_33 mk_X8_workerAt lk_RX8_99 im_X8_workerAt se_X8_workerAt (by decide) e19 rfl (Nat.le_of_ble_eq_true rfl) (Nat.le_of_ble_eq_true rfl) (t_X8_workerAt E _ e17 isR_rfl) ?_
      refine mw_astore_n dX8_untell_36 (by decide) rfl ?_
      refine mw_aload_n (x := x20) dX8_untell_37 rfl ?_
      obtain ⟨h26, r27, hf⟩ := ob hf
      have J28 : MW E m_X8_untell (d + 1) mc ms 46 [none, none, none, none] [] h26 K := by
        refine mw_iconst (v := 1) dX8_untell_46 (by decide) ?_
        obtain ⟨rfl, rfl⟩ := y1 hf
        exact mw_ireturn dX8_untell_47 rfl rfl hk
      refine mw_ifnull (tgt := 46) dX8_untell_38 rfl (fun c21 => ?_) (fun c21 => ?_)
      · rw [if_pos c21] at r27
        obtain rfl := y0 r27
        exact MW.sub (subL_n (subL_n (subL_n (subL_n subL_nil)))) J28
      · rw [if_neg c21] at r27
        refine mw_aload_n (x := x20) dX8_untell_41 rfl ?_
        refine mw_iconst (v := 0) dX8_untell_42 (by decide) ?_
        obtain ⟨h24, e25, r27⟩ := ob r27
        refine ml_putZ dX8_untell_43 fl_RX8_137 (Or.inl rfl) rfl rfl e25 ?_
        obtain rfl := y0 r27
        exact MW.sub (subL_n (subL_n (subL_n (subL_n subL_nil)))) J28
    · rw [if_neg c9] at hf
      refine mw_iconst (v := 0) dX8_untell_18 (by decide) ?_
      obtain ⟨rfl, rfl⟩ := y1 hf
      exact mw_ireturn dX8_untell_19 rfl rfl hk
def f_X8_weeks (a0 : Nat) (v1 : Int32) (v2 : Int32) (v3 : Int32) (v4 : Int32) (h : Hp) : Option (Int32 × Hp) :=
  (rc h (some a0) 7).bind fun g3 =>
  b1 (f_X8_factOf g3 (3 : Int32) v2 h) fun x5 h1 =>
  if x5 = none then
    some ((-1), h1)
  else
    (getI h1 x5 1 6).bind fun x7 =>
    (rc h1 (some a0) 7).bind fun g11 =>
    b1 (f_X8_openSheet g11 v1 x7 v3 v4 h1) fun x13 h9 =>
    if x13 = (0 : Int32) then
      some ((-1), h9)
    else
      (getQ h9 (some a0) 7 8).bind fun x15 =>
      (getI h9 x5 1 2).bind fun x17 =>
      (rc h9 x15 4).bind fun g21 =>
      b1 (f_X4_averageFor g21 x17 h9) fun x23 h19 =>
      (getQ h19 (some a0) 7 8).bind fun x24 =>
      (getI h19 x24 4 9).bind fun x26 =>
      some (x26, h19)
set_option maxHeartbeats 4000000 in
theorem t_X8_weeks (E : En) (d : Nat) {mc ms : Nat} {a0 : Nat} {v1 : Int32} {v2 : Int32} {v3 : Int32} {v4 : Int32} {h h' : Hp} {r : Int32} {K : Option Vv → Hp → Prop} (hf : f_X8_weeks a0 v1 v2 v3 v4 h = some (r, h')) (hk : K (some (vi r)) h') : MC E m_X8_weeks (d + 6) mc ms [vq (some a0), vi v1, vi v2, vi v3, vi v4] h K := by
  unfold f_X8_weeks at hf
  show MW E m_X8_weeks (d + 6) mc ms 0 [some (vq (some a0)), some (vi v1), some (vi v2), some (vi v3), some (vi v4), none] [] h K
  refine mw_aload_n (x := (some a0)) dX8_weeks_0 rfl ?_
  refine mw_iconst (v := 3) dX8_weeks_1 (by decide) ?_
  refine mw_iload_n (x := v2) dX8_weeks_2 rfl ?_
  obtain ⟨g3, e4, hf⟩ := ob hf
  obtain ⟨x5, h1, e2, hf⟩ := ob1 hf
  refine ml_callV (ci := 7) (mc' := 0) (ms' := 0) [vi (3 : Int32), vi v2] dX8_weeks_3 mk_X8_factOf lk_RX8_170 im_X8_factOf se_X8_factOf (by decide) e4 rfl (Nat.le_of_ble_eq_true rfl) (Nat.le_of_ble_eq_true rfl) (t_X8_factOf E _ e2 isR_rfl) ?_
  refine mw_astore dX8_weeks_6 (by decide) rfl ?_
  refine mw_aload (x := x5) dX8_weeks_8 rfl ?_
  refine mw_ifnull (tgt := 29) dX8_weeks_10 rfl (fun c6 => ?_) (fun c6 => ?_)
  · rw [if_pos c6] at hf
    refine mw_iconst (v := (-1)) dX8_weeks_29 (by decide) ?_
    obtain ⟨rfl, rfl⟩ := y1 hf
    exact mw_ireturn dX8_weeks_30 rfl rfl hk
  · rw [if_neg c6] at hf
    refine mw_aload_n (x := (some a0)) dX8_weeks_13 rfl ?_
    refine mw_iload_n (x := v1) dX8_weeks_14 rfl ?_
    refine mw_aload (x := x5) dX8_weeks_15 rfl ?_
    obtain ⟨x7, e8, hf⟩ := ob hf
    refine ml_getI dX8_weeks_17 fl_RX8_120 rfl e8 ?_
    refine mw_iload_n (x := v3) dX8_weeks_20 rfl ?_
    refine mw_iload (x := v4) dX8_weeks_21 rfl ?_
    obtain ⟨g11, e12, hf⟩ := ob hf
    obtain ⟨x13, h9, e10, hf⟩ := ob1 hf
    refine ml_callV (ci := 7) (mc' := 0) (ms' := 0) [vi v1, vi x7, vi v3, vi v4] dX8_weeks_23 mk_X8_openSheet lk_RX8_159 im_X8_openSheet se_X8_openSheet (by decide) e12 rfl (Nat.le_of_ble_eq_true rfl) (Nat.le_of_ble_eq_true rfl) (t_X8_openSheet E _ e10 isR_rfl) ?_
    refine mw_if_ne (tgt := 31) dX8_weeks_26 rfl (fun c14 => ?_) (fun c14 => ?_)
    · rw [if_neg c14] at hf
      refine mw_aload_n (x := (some a0)) dX8_weeks_31 rfl ?_
      obtain ⟨x15, e16, hf⟩ := ob hf
      refine ml_getQ dX8_weeks_32 fl_RX8_44 rfl e16 ?_
      refine mw_aload (x := x5) dX8_weeks_35 rfl ?_
      obtain ⟨x17, e18, hf⟩ := ob hf
      refine ml_getI dX8_weeks_37 fl_RX8_174 rfl e18 ?_
      obtain ⟨g21, e22, hf⟩ := ob hf
      obtain ⟨x23, h19, e20, hf⟩ := ob1 hf
      refine ml_callV (ci := 4) (mc' := 0) (ms' := 0) [vi x17] dX8_weeks_40 mk_X4_averageFor lk_RX8_177 im_X4_averageFor se_X4_averageFor (by decide) e22 rfl (Nat.le_of_ble_eq_true rfl) (Nat.le_of_ble_eq_true rfl) (t_X4_averageFor E _ e20 isR_rfl) ?_
      refine mw_popi dX8_weeks_43 ?_
      refine mw_aload_n (x := (some a0)) dX8_weeks_44 rfl ?_
      obtain ⟨x24, e25, hf⟩ := ob hf
      refine ml_getQ dX8_weeks_45 fl_RX8_44 rfl e25 ?_
      obtain ⟨x26, e27, hf⟩ := ob hf
      refine ml_getI dX8_weeks_48 fl_RX8_180 rfl e27 ?_
      obtain ⟨rfl, rfl⟩ := y1 hf
      exact mw_ireturn dX8_weeks_51 rfl rfl hk
    · rw [if_pos c14] at hf
      refine mw_iconst (v := (-1)) dX8_weeks_29 (by decide) ?_
      obtain ⟨rfl, rfl⟩ := y1 hf
      exact mw_ireturn dX8_weeks_30 rfl rfl hk
def f_X8_worker (a0 : Nat) (v1 : Int32) (v2 : Int32) (h : Hp) : Option (Int32 × Hp) :=
  b1 (f_X8_within v1 (0 : Int32) (9 : Int32) h) fun x3 h1 =>
  if x3 = (0 : Int32) then
    some ((-1), h1)
  else
    (getI h1 (some a0) 7 3).bind fun x5 =>
    if x5 < (0 : Int32) then
      some ((-1), h1)
    else
      (getI h1 (some a0) 7 3).bind fun x8 =>
      (getQ h1 (some a0) 7 2).bind fun x10 =>
      (aln h1 x10 16).bind fun x12 =>
      if x8 < x12 then
        (getQ h1 (some a0) 7 2).bind fun x15 =>
        (getI h1 (some a0) 7 3).bind fun x17 =>
        (rc (nw h1 6 0) (some h1.1.length) 6).bind fun g21 =>
        (f_X7_init g21 v1 v2 (nw h1 6 0)).bind fun h19 =>
        (wrQ h19 x15 16 x17 (some h1.1.length)).bind fun h23 =>
        (getI h23 (some a0) 7 3).bind fun x25 =>
        (putI h23 (some a0) 7 3 (x25 + (1 : Int32))).bind fun h27 =>
        (getI h27 (some a0) 7 3).bind fun x29 =>
        some ((x29 - (1 : Int32)), h27)
      else
        some ((-1), h1)
set_option maxHeartbeats 4000000 in
theorem t_X8_worker (E : En) (d : Nat) {a0 : Nat} {v1 : Int32} {v2 : Int32} {h h' : Hp} {r : Int32} {K : Option Vv → Hp → Prop} (hf : f_X8_worker a0 v1 v2 h = some (r, h')) (hk : K (some (vi r)) h') : MC E m_X8_worker (d + 2) 5 948 [vq (some a0), vi v1, vi v2] h K := by
  unfold f_X8_worker at hf
  show MW E m_X8_worker (d + 2) 5 948 0 [some (vq (some a0)), some (vi v1), some (vi v2)] [] h K
  refine mw_iload_n (x := v1) dX8_worker_0 rfl ?_
  refine mw_iconst (v := 0) dX8_worker_1 (by decide) ?_
  refine mw_bipush (v := 9) dX8_worker_2 (by decide) ?_
  obtain ⟨x3, h1, e2, hf⟩ := ob1 hf
  refine ml_callS (mc := 5) (ms := 948) (mc' := 0) (ms' := 0) [vi v1, vi (0 : Int32), vi (9 : Int32)] dX8_worker_4 mk_X8_within lk_RX8_81 st_X8_within rfl (Nat.le_of_ble_eq_true rfl) (Nat.le_of_ble_eq_true rfl) (t_X8_within E _ e2 isR_rfl) ?_
  refine mw_if_eq (tgt := 29) dX8_worker_7 rfl (fun c4 => ?_) (fun c4 => ?_)
  · rw [if_pos c4] at hf
    refine mw_iconst (v := (-1)) dX8_worker_29 (by decide) ?_
    obtain ⟨rfl, rfl⟩ := y1 hf
    exact mw_ireturn dX8_worker_30 rfl rfl hk
  · rw [if_neg c4] at hf
    refine mw_aload_n (x := (some a0)) dX8_worker_10 rfl ?_
    obtain ⟨x5, e6, hf⟩ := ob hf
    refine ml_getI dX8_worker_11 fl_RX8_85 rfl e6 ?_
    refine mw_if_lt (tgt := 29) dX8_worker_14 rfl (fun c7 => ?_) (fun c7 => ?_)
    · rw [if_pos c7] at hf
      refine mw_iconst (v := (-1)) dX8_worker_29 (by decide) ?_
      obtain ⟨rfl, rfl⟩ := y1 hf
      exact mw_ireturn dX8_worker_30 rfl rfl hk
    · rw [if_neg c7] at hf
      refine mw_aload_n (x := (some a0)) dX8_worker_17 rfl ?_
      obtain ⟨x8, e9, hf⟩ := ob hf
      refine ml_getI dX8_worker_18 fl_RX8_85 rfl e9 ?_
      refine mw_aload_n (x := (some a0)) dX8_worker_21 rfl ?_
      obtain ⟨x10, e11, hf⟩ := ob hf
      refine ml_getQ dX8_worker_22 fl_RX8_24 rfl e11 ?_
      obtain ⟨x12, e13, hf⟩ := ob hf
      refine ml_alen dX8_worker_25 e13 (by decide) (by decide) ?_
      refine mw_icmp_lt (tgt := 31) dX8_worker_26 rfl (fun c14 => ?_) (fun c14 => ?_)
      · rw [if_pos c14] at hf
        refine mw_aload_n (x := (some a0)) dX8_worker_31 rfl ?_
        obtain ⟨x15, e16, hf⟩ := ob hf
        refine ml_getQ dX8_worker_32 fl_RX8_24 rfl e16 ?_
        refine mw_aload_n (x := (some a0)) dX8_worker_35 rfl ?_
        obtain ⟨x17, e18, hf⟩ := ob hf
        refine ml_getI dX8_worker_36 fl_RX8_85 rfl e18 ?_
        refine mw_new (ci := 6) (mc := 4) (ms := 936) dX8_worker_39 (by decide) cl_RX8_22 it_6 in_6 ?_
        refine mw_dupq dX8_worker_42 ?_
        refine mw_iload_n (x := v1) dX8_worker_43 rfl ?_
        refine mw_iload_n (x := v2) dX8_worker_44 rfl ?_
        obtain ⟨g21, e22, hf⟩ := ob hf
        obtain ⟨h19, e20, hf⟩ := ob hf
        refine ml_callI (mc := 0) (ms := 0) (mc' := 4) (ms' := 936) [vi v1, vi v2] dX8_worker_45 mk_X7_init rfl lk_RX8_88 im_X7_init rfl e22 rfl (Nat.le_of_ble_eq_true rfl) (Nat.le_of_ble_eq_true rfl) (t_X7_init E _ e20 isR_rfl) ?_
        obtain ⟨h23, e24, hf⟩ := ob hf
        refine ml_aast dX8_worker_48 e24 (by decide) (by decide) ?_
        refine mw_aload_n (x := (some a0)) dX8_worker_49 rfl ?_
        refine mw_dupq dX8_worker_50 ?_
        obtain ⟨x25, e26, hf⟩ := ob hf
        refine ml_getI dX8_worker_51 fl_RX8_85 rfl e26 ?_
        refine mw_iconst (v := 1) dX8_worker_54 (by decide) ?_
        refine mw_iadd dX8_worker_55 ?_
        obtain ⟨h27, e28, hf⟩ := ob hf
        refine ml_putI dX8_worker_56 fl_RX8_85 (Or.inl rfl) rfl rfl e28 ?_
        refine mw_aload_n (x := (some a0)) dX8_worker_59 rfl ?_
        obtain ⟨x29, e30, hf⟩ := ob hf
        refine ml_getI dX8_worker_60 fl_RX8_85 rfl e30 ?_
        refine mw_iconst (v := 1) dX8_worker_63 (by decide) ?_
        refine mw_isub dX8_worker_64 ?_
        obtain ⟨rfl, rfl⟩ := y1 hf
        exact mw_ireturn dX8_worker_65 rfl rfl hk
      · rw [if_neg c14] at hf
        refine mw_iconst (v := (-1)) dX8_worker_29 (by decide) ?_
        obtain ⟨rfl, rfl⟩ := y1 hf
        exact mw_ireturn dX8_worker_30 rfl rfl hk
def f_X9_about (a0 : Nat) (v1 : Int32) (h : Hp) : Option (Int32 × Hp) :=
  if v1.toInt < 0 ∨ 3 < v1.toInt then
    b1 ((if v1 < (10 : Int32) then
        some ((-1), h)
      else
        if (14 : Int32) ≤ v1 then
          some ((-1), h)
        else
          (getQ h (some a0) 8 12).bind fun x16 =>
          (rdI h x16 10 (v1 - (10 : Int32))).bind fun x18 =>
          some (x18, h) : Option (Int32 × Hp))) fun w20 h21 =>
    some (w20, h21)
  else if v1 = 0 then
    (getI h (some a0) 8 40).bind fun x1 =>
    some (x1, h)
  else if v1 = 1 then
    (getI h (some a0) 8 41).bind fun x3 =>
    some (x3, h)
  else if v1 = 2 then
    (getI h (some a0) 8 42).bind fun x5 =>
    some (x5, h)
  else if v1 = 3 then
    (getI h (some a0) 8 2).bind fun x7 =>
    some (x7, h)
  else none
set_option maxHeartbeats 4000000 in
theorem t_X9_about (E : En) (d : Nat) {mc ms : Nat} {a0 : Nat} {v1 : Int32} {h h' : Hp} {r : Int32} {K : Option Vv → Hp → Prop} (hf : f_X9_about a0 v1 h = some (r, h')) (hk : K (some (vi r)) h') : MC E m_X9_about (d + 0) mc ms [vq (some a0), vi v1] h K := by
  unfold f_X9_about at hf
  show MW E m_X9_about (d + 0) mc ms 0 [some (vq (some a0)), some (vi v1)] [] h K
  refine mw_iload_n (x := v1) dX9_about_0 rfl ?_
  by_cases c23 : v1.toInt < 0 ∨ 3 < v1.toInt
  · rw [if_pos c23] at hf
    refine mw_tableOut (tgt := 52) dX9_about_1 c23 rfl ?_
    refine mw_iload_n (x := v1) dX9_about_52 rfl ?_
    refine mw_bipush (v := 10) dX9_about_53 (by decide) ?_
    obtain ⟨w20, h21, r22, hf⟩ := ob1 hf
    have J24 : MW E m_X9_about (d + 0) mc ms 77 [none, none] [vi w20] h21 K := by
      obtain ⟨rfl, rfl⟩ := y1 hf
      exact mw_ireturn dX9_about_77 rfl rfl hk
    refine mw_icmp_lt (tgt := 76) dX9_about_55 rfl (fun c9 => ?_) (fun c9 => ?_)
    · rw [if_pos c9] at r22
      refine mw_iconst (v := (-1)) dX9_about_76 (by decide) ?_
      obtain ⟨rfl, rfl⟩ := y1 r22
      exact MW.sub (subL_n (subL_n subL_nil)) J24
    · rw [if_neg c9] at r22
      refine mw_iload_n (x := v1) dX9_about_58 rfl ?_
      refine mw_bipush (v := 14) dX9_about_59 (by decide) ?_
      refine mw_icmp_ge (tgt := 76) dX9_about_61 rfl (fun c15 => ?_) (fun c15 => ?_)
      · rw [if_pos c15] at r22
        refine mw_iconst (v := (-1)) dX9_about_76 (by decide) ?_
        obtain ⟨rfl, rfl⟩ := y1 r22
        exact MW.sub (subL_n (subL_n subL_nil)) J24
      · rw [if_neg c15] at r22
        refine mw_aload_n (x := (some a0)) dX9_about_64 rfl ?_
        obtain ⟨x16, e17, r22⟩ := ob r22
        refine ml_getQ dX9_about_65 fl_RX9_73 rfl e17 ?_
        refine mw_iload_n (x := v1) dX9_about_68 rfl ?_
        refine mw_bipush (v := 10) dX9_about_69 (by decide) ?_
        refine mw_isub dX9_about_71 ?_
        obtain ⟨x18, e19, r22⟩ := ob r22
        refine ml_iald dX9_about_72 e19 ?_
        refine mw_goto (tgt := 77) dX9_about_73 rfl ?_
        obtain ⟨rfl, rfl⟩ := y1 r22
        exact MW.sub (subL_n (subL_n subL_nil)) J24
  rw [if_neg c23] at hf
  by_cases c23 : v1 = 0
  · rw [if_pos c23] at hf
    refine ml_tableIn (v := 0) (tgt := 32) dX9_about_1 c23 (by decide) (by decide) rfl rfl ?_
    refine mw_aload_n (x := (some a0)) dX9_about_32 rfl ?_
    obtain ⟨x1, e2, hf⟩ := ob hf
    refine ml_getI dX9_about_33 fl_RX9_337 rfl e2 ?_
    obtain ⟨rfl, rfl⟩ := y1 hf
    exact mw_ireturn dX9_about_36 rfl rfl hk
  rw [if_neg c23] at hf
  by_cases c23 : v1 = 1
  · rw [if_pos c23] at hf
    refine ml_tableIn (v := 1) (tgt := 37) dX9_about_1 c23 (by decide) (by decide) rfl rfl ?_
    refine mw_aload_n (x := (some a0)) dX9_about_37 rfl ?_
    obtain ⟨x3, e4, hf⟩ := ob hf
    refine ml_getI dX9_about_38 fl_RX9_340 rfl e4 ?_
    obtain ⟨rfl, rfl⟩ := y1 hf
    exact mw_ireturn dX9_about_41 rfl rfl hk
  rw [if_neg c23] at hf
  by_cases c23 : v1 = 2
  · rw [if_pos c23] at hf
    refine ml_tableIn (v := 2) (tgt := 42) dX9_about_1 c23 (by decide) (by decide) rfl rfl ?_
    refine mw_aload_n (x := (some a0)) dX9_about_42 rfl ?_
    obtain ⟨x5, e6, hf⟩ := ob hf
    refine ml_getI dX9_about_43 fl_RX9_343 rfl e6 ?_
    obtain ⟨rfl, rfl⟩ := y1 hf
    exact mw_ireturn dX9_about_46 rfl rfl hk
  rw [if_neg c23] at hf
  by_cases c23 : v1 = 3
  · rw [if_pos c23] at hf
    refine ml_tableIn (v := 3) (tgt := 47) dX9_about_1 c23 (by decide) (by decide) rfl rfl ?_
    refine mw_aload_n (x := (some a0)) dX9_about_47 rfl ?_
    obtain ⟨x7, e8, hf⟩ := ob hf
    refine ml_getI dX9_about_48 fl_RX9_203 rfl e8 ?_
    obtain ⟨rfl, rfl⟩ := y1 hf
    exact mw_ireturn dX9_about_51 rfl rfl hk
  rw [if_neg c23] at hf
  cases hf
def f_X9_isShelf (v0 : Int32) (h : Hp) : Option (Int32 × Hp) :=
  b1 ((if v0 < (0 : Int32) then
      some (0, h)
    else
      if (4 : Int32) ≤ v0 then
        some (0, h)
      else
        some (1, h) : Option (Int32 × Hp))) fun w4 h5 =>
  (zok w4).bind fun z7 =>
  some (w4, h5)
set_option maxHeartbeats 4000000 in
theorem t_X9_isShelf (E : En) (d : Nat) {mc ms : Nat} {v0 : Int32} {h h' : Hp} {r : Int32} {K : Option Vv → Hp → Prop} (hf : f_X9_isShelf v0 h = some (r, h')) (hk : K (some (vi r)) h') : MC E m_X9_isShelf (d + 0) mc ms [vi v0] h K := by
  unfold f_X9_isShelf at hf
  show MW E m_X9_isShelf (d + 0) mc ms 0 [some (vi v0)] [] h K
  refine mw_iload_n (x := v0) dX9_isShelf_0 rfl ?_
  obtain ⟨w4, h5, r6, hf⟩ := ob1 hf
  have J9 : MW E m_X9_isShelf (d + 0) mc ms 14 [none] [vi w4] h5 K := by
    obtain ⟨z7, e8, hf⟩ := ob hf
    obtain ⟨rfl, rfl⟩ := y1 hf
    exact mw_ireturn dX9_isShelf_14 rfl (zok_of e8) hk
  refine mw_if_lt (tgt := 13) dX9_isShelf_1 rfl (fun c1 => ?_) (fun c1 => ?_)
  · rw [if_pos c1] at r6
    refine mw_iconst (v := 0) dX9_isShelf_13 (by decide) ?_
    obtain ⟨rfl, rfl⟩ := y1 r6
    exact MW.sub (subL_n subL_nil) J9
  · rw [if_neg c1] at r6
    refine mw_iload_n (x := v0) dX9_isShelf_4 rfl ?_
    refine mw_iconst (v := 4) dX9_isShelf_5 (by decide) ?_
    refine mw_icmp_ge (tgt := 13) dX9_isShelf_6 rfl (fun c3 => ?_) (fun c3 => ?_)
    · rw [if_pos c3] at r6
      refine mw_iconst (v := 0) dX9_isShelf_13 (by decide) ?_
      obtain ⟨rfl, rfl⟩ := y1 r6
      exact MW.sub (subL_n subL_nil) J9
    · rw [if_neg c3] at r6
      refine mw_iconst (v := 1) dX9_isShelf_9 (by decide) ?_
      refine mw_goto (tgt := 14) dX9_isShelf_10 rfl ?_
      obtain ⟨rfl, rfl⟩ := y1 r6
      exact MW.sub (subL_n subL_nil) J9
def f_X9_plain (v0 : Int32) (h : Hp) : Option (Int32 × Hp) :=
  b1 ((if v0 = (0 : Int32) then
      some (12, h)
    else
      if v0 = (1 : Int32) then
        some (104, h)
      else
        if v0 = (2 : Int32) then
          some (5, h)
        else
          if v0 = (3 : Int32) then
            some (90, h)
          else
            if v0 = (4 : Int32) then
              some (90, h)
            else
              if v0 = (5 : Int32) then
                some (9999, h)
              else
                some (0, h) : Option (Int32 × Hp))) fun w12 h13 =>
  some (w12, h13)
set_option maxHeartbeats 4000000 in
theorem t_X9_plain (E : En) (d : Nat) {mc ms : Nat} {v0 : Int32} {h h' : Hp} {r : Int32} {K : Option Vv → Hp → Prop} (hf : f_X9_plain v0 h = some (r, h')) (hk : K (some (vi r)) h') : MC E m_X9_plain (d + 0) mc ms [vi v0] h K := by
  unfold f_X9_plain at hf
  show MW E m_X9_plain (d + 0) mc ms 0 [some (vi v0)] [] h K
  refine mw_iload_n (x := v0) dX9_plain_0 rfl ?_
  obtain ⟨w12, h13, r14, hf⟩ := ob1 hf
  have J15 : MW E m_X9_plain (d + 0) mc ms 55 [none] [vi w12] h13 K := by
    obtain ⟨rfl, rfl⟩ := y1 hf
    exact mw_ireturn dX9_plain_55 rfl rfl hk
  refine mw_if_ne (tgt := 9) dX9_plain_1 rfl (fun c1 => ?_) (fun c1 => ?_)
  · rw [if_neg c1] at r14
    refine mw_iload_n (x := v0) dX9_plain_9 rfl ?_
    refine mw_iconst (v := 1) dX9_plain_10 (by decide) ?_
    refine mw_icmp_ne (tgt := 19) dX9_plain_11 rfl (fun c7 => ?_) (fun c7 => ?_)
    · rw [if_neg c7] at r14
      refine mw_iload_n (x := v0) dX9_plain_19 rfl ?_
      refine mw_iconst (v := 2) dX9_plain_20 (by decide) ?_
      refine mw_icmp_ne (tgt := 28) dX9_plain_21 rfl (fun c8 => ?_) (fun c8 => ?_)
      · rw [if_neg c8] at r14
        refine mw_iload_n (x := v0) dX9_plain_28 rfl ?_
        refine mw_iconst (v := 3) dX9_plain_29 (by decide) ?_
        refine mw_icmp_eq (tgt := 38) dX9_plain_30 rfl (fun c9 => ?_) (fun c9 => ?_)
        · rw [if_pos c9] at r14
          refine mw_bipush (v := 90) dX9_plain_38 (by decide) ?_
          refine mw_goto (tgt := 55) dX9_plain_40 rfl ?_
          obtain ⟨rfl, rfl⟩ := y1 r14
          exact MW.sub (subL_n subL_nil) J15
        · rw [if_neg c9] at r14
          refine mw_iload_n (x := v0) dX9_plain_33 rfl ?_
          refine mw_iconst (v := 4) dX9_plain_34 (by decide) ?_
          refine mw_icmp_ne (tgt := 43) dX9_plain_35 rfl (fun c10 => ?_) (fun c10 => ?_)
          · rw [if_neg c10] at r14
            refine mw_iload_n (x := v0) dX9_plain_43 rfl ?_
            refine mw_iconst (v := 5) dX9_plain_44 (by decide) ?_
            refine mw_icmp_ne (tgt := 54) dX9_plain_45 rfl (fun c11 => ?_) (fun c11 => ?_)
            · rw [if_neg c11] at r14
              refine mw_iconst (v := 0) dX9_plain_54 (by decide) ?_
              obtain ⟨rfl, rfl⟩ := y1 r14
              exact MW.sub (subL_n subL_nil) J15
            · rw [if_pos c11] at r14
              refine mw_sipush (v := 9999) dX9_plain_48 (by decide) ?_
              refine mw_goto (tgt := 55) dX9_plain_51 rfl ?_
              obtain ⟨rfl, rfl⟩ := y1 r14
              exact MW.sub (subL_n subL_nil) J15
          · rw [if_pos c10] at r14
            refine mw_bipush (v := 90) dX9_plain_38 (by decide) ?_
            refine mw_goto (tgt := 55) dX9_plain_40 rfl ?_
            obtain ⟨rfl, rfl⟩ := y1 r14
            exact MW.sub (subL_n subL_nil) J15
      · rw [if_pos c8] at r14
        refine mw_iconst (v := 5) dX9_plain_24 (by decide) ?_
        refine mw_goto (tgt := 55) dX9_plain_25 rfl ?_
        obtain ⟨rfl, rfl⟩ := y1 r14
        exact MW.sub (subL_n subL_nil) J15
    · rw [if_pos c7] at r14
      refine mw_bipush (v := 104) dX9_plain_14 (by decide) ?_
      refine mw_goto (tgt := 55) dX9_plain_16 rfl ?_
      obtain ⟨rfl, rfl⟩ := y1 r14
      exact MW.sub (subL_n subL_nil) J15
  · rw [if_pos c1] at r14
    refine mw_bipush (v := 12) dX9_plain_4 (by decide) ?_
    refine mw_goto (tgt := 55) dX9_plain_6 rfl ?_
    obtain ⟨rfl, rfl⟩ := y1 r14
    exact MW.sub (subL_n subL_nil) J15
def f_X9_clear_L2 : Nat → Nat → Int32 → Int32 → Hp → Option ((Hp))
  | 0, _, _, _, _ => none
  | n + 1, a0, v1, v2, h =>
    if (7 : Int32) ≤ v2 then
      some h
    else
      (getQ h (some a0) 8 11).bind fun x2 =>
      b1 (f_X9_plain v2 h) fun x6 h4 =>
      (wrI h4 x2 (((7 : Int32) * v1) + v2) x6).bind fun h7 =>
      (getQ h7 (some a0) 8 23).bind fun x9 =>
      (wrZ h7 x9 (((7 : Int32) * v1) + v2) 0).bind fun h11 =>
      f_X9_clear_L2 n a0 v1 (v2 + 1) h11
def f_X9_clear (a0 : Nat) (v1 : Int32) (h : Hp) : Option (Hp) :=
  (f_X9_clear_L2 fu a0 v1 0 h).bind fun h13 =>
  (getQ h13 (some a0) 8 12).bind fun x14 =>
  (wrI h13 x14 v1 0).bind fun h16 =>
  (getQ h16 (some a0) 8 13).bind fun x18 =>
  (wrI h16 x18 v1 0).bind fun h20 =>
  (getQ h20 (some a0) 8 24).bind fun x22 =>
  (wrZ h20 x22 v1 0).bind fun h24 =>
  some h24
set_option maxHeartbeats 4000000 in
theorem tl_X9_clear_2 (E : En) (d : Nat) {mc ms : Nat} {K : Option Vv → Hp → Prop} : ∀ (n : Nat) (a0 : Nat) (v1 : Int32) (v2 : Int32) (h : Hp) (hz : Hp), f_X9_clear_L2 n a0 v1 v2 h = some hz → MW E m_X9_clear (d + 1) mc ms 41 [some (vq (some a0)), some (vi v1), none] [] hz K → MW E m_X9_clear (d + 1) mc ms 2 [some (vq (some a0)), some (vi v1), some (vi v2)] [] h K := by
  intro n
  induction n with
  | zero => intro a0 v1 v2 h hz hf; exact nomatch (show none = some _ from hf)
  | succ n ih =>
    intro a0 v1 v2 h hz hf hX41
    rw [f_X9_clear_L2] at hf
    refine mw_iload_n (x := v2) dX9_clear_2 rfl ?_
    refine mw_bipush (v := 7) dX9_clear_3 (by decide) ?_
    refine mw_icmp_ge (tgt := 41) dX9_clear_5 rfl (fun c1 => ?_) (fun c1 => ?_)
    · rw [if_pos c1] at hf
      obtain rfl := y0 hf
      exact MW.sub (subL_s (subL_s (subL_n subL_nil))) hX41
    · rw [if_neg c1] at hf
      refine mw_aload_n (x := (some a0)) dX9_clear_8 rfl ?_
      obtain ⟨x2, e3, hf⟩ := ob hf
      refine ml_getQ dX9_clear_9 fl_RX9_62 rfl e3 ?_
      refine mw_bipush (v := 7) dX9_clear_12 (by decide) ?_
      refine mw_iload_n (x := v1) dX9_clear_14 rfl ?_
      refine mw_imul dX9_clear_15 ?_
      refine mw_iload_n (x := v2) dX9_clear_16 rfl ?_
      refine mw_iadd dX9_clear_17 ?_
      refine mw_iload_n (x := v2) dX9_clear_18 rfl ?_
      obtain ⟨x6, h4, e5, hf⟩ := ob1 hf
      refine ml_callS (mc' := 0) (ms' := 0) [vi v2] dX9_clear_19 mk_X9_plain lk_RX9_66 st_X9_plain rfl (Nat.le_of_ble_eq_true rfl) (Nat.le_of_ble_eq_true rfl) (t_X9_plain E _ e5 isR_rfl) ?_
      obtain ⟨h7, e8, hf⟩ := ob hf
      refine ml_iast dX9_clear_22 e8 ?_
      refine mw_aload_n (x := (some a0)) dX9_clear_23 rfl ?_
      obtain ⟨x9, e10, hf⟩ := ob hf
      refine ml_getQ dX9_clear_24 fl_RX9_69 rfl e10 ?_
      refine mw_bipush (v := 7) dX9_clear_27 (by decide) ?_
      refine mw_iload_n (x := v1) dX9_clear_29 rfl ?_
      refine mw_imul dX9_clear_30 ?_
      refine mw_iload_n (x := v2) dX9_clear_31 rfl ?_
      refine mw_iadd dX9_clear_32 ?_
      refine mw_iconst (v := 0) dX9_clear_33 (by decide) ?_
      obtain ⟨h11, e12, hf⟩ := ob hf
      refine ml_zast dX9_clear_34 e12 ?_
      refine mw_iinc (x := v2) (v := v2 + 1) dX9_clear_35 rfl rfl (by decide) rfl ?_
      refine mw_goto (tgt := 2) dX9_clear_38 rfl ?_
      exact MW.sub (subL_s (subL_s (subL_s subL_nil))) (ih _ _ _ _ _ hf hX41)
set_option maxHeartbeats 4000000 in
theorem t_X9_clear (E : En) (d : Nat) {mc ms : Nat} {a0 : Nat} {v1 : Int32} {h h' : Hp} {K : Option Vv → Hp → Prop} (hf : f_X9_clear a0 v1 h = some h') (hk : K none h') : MC E m_X9_clear (d + 1) mc ms [vq (some a0), vi v1] h K := by
  unfold f_X9_clear at hf
  show MW E m_X9_clear (d + 1) mc ms 0 [some (vq (some a0)), some (vi v1), none] [] h K
  refine mw_iconst (v := 0) dX9_clear_0 (by decide) ?_
  refine mw_istore_n dX9_clear_1 (by decide) rfl ?_
  obtain ⟨h13, e26, hf⟩ := ob hf
  refine MW.sub (subL_s (subL_s (subL_s subL_nil))) (tl_X9_clear_2 E d _ _ _ _ _ _ e26 ?_)
  refine mw_aload_n (x := (some a0)) dX9_clear_41 rfl ?_
  obtain ⟨x14, e15, hf⟩ := ob hf
  refine ml_getQ dX9_clear_42 fl_RX9_73 rfl e15 ?_
  refine mw_iload_n (x := v1) dX9_clear_45 rfl ?_
  refine mw_iconst (v := 0) dX9_clear_46 (by decide) ?_
  obtain ⟨h16, e17, hf⟩ := ob hf
  refine ml_iast dX9_clear_47 e17 ?_
  refine mw_aload_n (x := (some a0)) dX9_clear_48 rfl ?_
  obtain ⟨x18, e19, hf⟩ := ob hf
  refine ml_getQ dX9_clear_49 fl_RX9_76 rfl e19 ?_
  refine mw_iload_n (x := v1) dX9_clear_52 rfl ?_
  refine mw_iconst (v := 0) dX9_clear_53 (by decide) ?_
  obtain ⟨h20, e21, hf⟩ := ob hf
  refine ml_iast dX9_clear_54 e21 ?_
  refine mw_aload_n (x := (some a0)) dX9_clear_55 rfl ?_
  obtain ⟨x22, e23, hf⟩ := ob hf
  refine ml_getQ dX9_clear_56 fl_RX9_79 rfl e23 ?_
  refine mw_iload_n (x := v1) dX9_clear_59 rfl ?_
  refine mw_iconst (v := 0) dX9_clear_60 (by decide) ?_
  obtain ⟨h24, e25, hf⟩ := ob hf
  refine ml_zast dX9_clear_61 e25 ?_
  obtain rfl := y0 hf
  exact mw_return dX9_clear_62 rfl hk
def f_X9_sign (a0 : Nat) (v1 : Int32) (h : Hp) : Option (Int32 × Hp) :=
  (getI h (some a0) 8 3).bind fun x1 =>
  b1 ((if x1 ≤ v1 then
      some (0, h)
    else
      (getQ h (some a0) 8 1).bind fun x8 =>
      (rdI h x8 9 v1).bind fun x10 =>
      some ((x10 &&& (255 : Int32)), h) : Option (Int32 × Hp))) fun w12 h13 =>
  some (w12, h13)
set_option maxHeartbeats 4000000 in
theorem t_X9_sign (E : En) (d : Nat) {mc ms : Nat} {a0 : Nat} {v1 : Int32} {h h' : Hp} {r : Int32} {K : Option Vv → Hp → Prop} (hf : f_X9_sign a0 v1 h = some (r, h')) (hk : K (some (vi r)) h') : MC E m_X9_sign (d + 0) mc ms [vq (some a0), vi v1] h K := by
  unfold f_X9_sign at hf
  show MW E m_X9_sign (d + 0) mc ms 0 [some (vq (some a0)), some (vi v1)] [] h K
  refine mw_iload_n (x := v1) dX9_sign_0 rfl ?_
  refine mw_aload_n (x := (some a0)) dX9_sign_1 rfl ?_
  obtain ⟨x1, e2, hf⟩ := ob hf
  refine ml_getI dX9_sign_2 fl_RX9_1 rfl e2 ?_
  obtain ⟨w12, h13, r14, hf⟩ := ob1 hf
  have J15 : MW E m_X9_sign (d + 0) mc ms 22 [none, none] [vi w12] h13 K := by
    obtain ⟨rfl, rfl⟩ := y1 hf
    exact mw_ireturn dX9_sign_22 rfl rfl hk
  refine mw_icmp_ge (tgt := 21) dX9_sign_5 rfl (fun c3 => ?_) (fun c3 => ?_)
  · rw [if_pos c3] at r14
    refine mw_iconst (v := 0) dX9_sign_21 (by decide) ?_
    obtain ⟨rfl, rfl⟩ := y1 r14
    exact MW.sub (subL_n (subL_n subL_nil)) J15
  · rw [if_neg c3] at r14
    refine mw_aload_n (x := (some a0)) dX9_sign_8 rfl ?_
    obtain ⟨x8, e9, r14⟩ := ob r14
    refine ml_getQ dX9_sign_9 fl_RX9_7 rfl e9 ?_
    refine mw_iload_n (x := v1) dX9_sign_12 rfl ?_
    obtain ⟨x10, e11, r14⟩ := ob r14
    refine ml_bald dX9_sign_13 e11 ?_
    refine mw_sipush (v := 255) dX9_sign_14 (by decide) ?_
    refine mw_iand dX9_sign_17 ?_
    refine mw_goto (tgt := 22) dX9_sign_18 rfl ?_
    obtain ⟨rfl, rfl⟩ := y1 r14
    exact MW.sub (subL_n (subL_n subL_nil)) J15
def f_X9_isLetter (v0 : Int32) (h : Hp) : Option (Int32 × Hp) :=
  b1 ((if v0 < (97 : Int32) then
      some (0, h)
    else
      if (122 : Int32) < v0 then
        some (0, h)
      else
        some (1, h) : Option (Int32 × Hp))) fun w4 h5 =>
  (zok w4).bind fun z7 =>
  some (w4, h5)
set_option maxHeartbeats 4000000 in
theorem t_X9_isLetter (E : En) (d : Nat) {mc ms : Nat} {v0 : Int32} {h h' : Hp} {r : Int32} {K : Option Vv → Hp → Prop} (hf : f_X9_isLetter v0 h = some (r, h')) (hk : K (some (vi r)) h') : MC E m_X9_isLetter (d + 0) mc ms [vi v0] h K := by
  unfold f_X9_isLetter at hf
  show MW E m_X9_isLetter (d + 0) mc ms 0 [some (vi v0)] [] h K
  refine mw_iload_n (x := v0) dX9_isLetter_0 rfl ?_
  refine mw_bipush (v := 97) dX9_isLetter_1 (by decide) ?_
  obtain ⟨w4, h5, r6, hf⟩ := ob1 hf
  have J9 : MW E m_X9_isLetter (d + 0) mc ms 17 [none] [vi w4] h5 K := by
    obtain ⟨z7, e8, hf⟩ := ob hf
    obtain ⟨rfl, rfl⟩ := y1 hf
    exact mw_ireturn dX9_isLetter_17 rfl (zok_of e8) hk
  refine mw_icmp_lt (tgt := 16) dX9_isLetter_3 rfl (fun c1 => ?_) (fun c1 => ?_)
  · rw [if_pos c1] at r6
    refine mw_iconst (v := 0) dX9_isLetter_16 (by decide) ?_
    obtain ⟨rfl, rfl⟩ := y1 r6
    exact MW.sub (subL_n subL_nil) J9
  · rw [if_neg c1] at r6
    refine mw_iload_n (x := v0) dX9_isLetter_6 rfl ?_
    refine mw_bipush (v := 122) dX9_isLetter_7 (by decide) ?_
    refine mw_icmp_gt (tgt := 16) dX9_isLetter_9 rfl (fun c3 => ?_) (fun c3 => ?_)
    · rw [if_pos c3] at r6
      refine mw_iconst (v := 0) dX9_isLetter_16 (by decide) ?_
      obtain ⟨rfl, rfl⟩ := y1 r6
      exact MW.sub (subL_n subL_nil) J9
    · rw [if_neg c3] at r6
      refine mw_iconst (v := 1) dX9_isLetter_12 (by decide) ?_
      refine mw_goto (tgt := 17) dX9_isLetter_13 rfl ?_
      obtain ⟨rfl, rfl⟩ := y1 r6
      exact MW.sub (subL_n subL_nil) J9
def f_X9_isDigit (v0 : Int32) (h : Hp) : Option (Int32 × Hp) :=
  b1 ((if v0 < (48 : Int32) then
      some (0, h)
    else
      if (57 : Int32) < v0 then
        some (0, h)
      else
        some (1, h) : Option (Int32 × Hp))) fun w4 h5 =>
  (zok w4).bind fun z7 =>
  some (w4, h5)
set_option maxHeartbeats 4000000 in
theorem t_X9_isDigit (E : En) (d : Nat) {mc ms : Nat} {v0 : Int32} {h h' : Hp} {r : Int32} {K : Option Vv → Hp → Prop} (hf : f_X9_isDigit v0 h = some (r, h')) (hk : K (some (vi r)) h') : MC E m_X9_isDigit (d + 0) mc ms [vi v0] h K := by
  unfold f_X9_isDigit at hf
  show MW E m_X9_isDigit (d + 0) mc ms 0 [some (vi v0)] [] h K
  refine mw_iload_n (x := v0) dX9_isDigit_0 rfl ?_
  refine mw_bipush (v := 48) dX9_isDigit_1 (by decide) ?_
  obtain ⟨w4, h5, r6, hf⟩ := ob1 hf
  have J9 : MW E m_X9_isDigit (d + 0) mc ms 17 [none] [vi w4] h5 K := by
    obtain ⟨z7, e8, hf⟩ := ob hf
    obtain ⟨rfl, rfl⟩ := y1 hf
    exact mw_ireturn dX9_isDigit_17 rfl (zok_of e8) hk
  refine mw_icmp_lt (tgt := 16) dX9_isDigit_3 rfl (fun c1 => ?_) (fun c1 => ?_)
  · rw [if_pos c1] at r6
    refine mw_iconst (v := 0) dX9_isDigit_16 (by decide) ?_
    obtain ⟨rfl, rfl⟩ := y1 r6
    exact MW.sub (subL_n subL_nil) J9
  · rw [if_neg c1] at r6
    refine mw_iload_n (x := v0) dX9_isDigit_6 rfl ?_
    refine mw_bipush (v := 57) dX9_isDigit_7 (by decide) ?_
    refine mw_icmp_gt (tgt := 16) dX9_isDigit_9 rfl (fun c3 => ?_) (fun c3 => ?_)
    · rw [if_pos c3] at r6
      refine mw_iconst (v := 0) dX9_isDigit_16 (by decide) ?_
      obtain ⟨rfl, rfl⟩ := y1 r6
      exact MW.sub (subL_n subL_nil) J9
    · rw [if_neg c3] at r6
      refine mw_iconst (v := 1) dX9_isDigit_12 (by decide) ?_
      refine mw_goto (tgt := 17) dX9_isDigit_13 rfl ?_
      obtain ⟨rfl, rfl⟩ := y1 r6
      exact MW.sub (subL_n subL_nil) J9
def f_X9_isSign (v0 : Int32) (h : Hp) : Option (Int32 × Hp) :=
  b1 ((if v0 = (59 : Int32) then
      some (1, h)
    else
      if v0 = (40 : Int32) then
        some (1, h)
      else
        if v0 = (41 : Int32) then
          some (1, h)
        else
          if v0 = (60 : Int32) then
            some (1, h)
          else
            if v0 = (62 : Int32) then
              some (1, h)
            else
              if v0 = (61 : Int32) then
                some (1, h)
              else
                if v0 = (43 : Int32) then
                  some (1, h)
                else
                  if v0 = (45 : Int32) then
                    some (1, h)
                  else
                    if v0 = (42 : Int32) then
                      some (1, h)
                    else
                      if v0 = (47 : Int32) then
                        some (1, h)
                      else
                        some (0, h) : Option (Int32 × Hp))) fun w20 h21 =>
  (zok w20).bind fun z23 =>
  some (w20, h21)
set_option maxHeartbeats 4000000 in
theorem t_X9_isSign (E : En) (d : Nat) {mc ms : Nat} {v0 : Int32} {h h' : Hp} {r : Int32} {K : Option Vv → Hp → Prop} (hf : f_X9_isSign v0 h = some (r, h')) (hk : K (some (vi r)) h') : MC E m_X9_isSign (d + 0) mc ms [vi v0] h K := by
  unfold f_X9_isSign at hf
  show MW E m_X9_isSign (d + 0) mc ms 0 [some (vi v0)] [] h K
  refine mw_iload_n (x := v0) dX9_isSign_0 rfl ?_
  refine mw_bipush (v := 59) dX9_isSign_1 (by decide) ?_
  obtain ⟨w20, h21, r22, hf⟩ := ob1 hf
  have J25 : MW E m_X9_isSign (d + 0) mc ms 65 [none] [vi w20] h21 K := by
    obtain ⟨z23, e24, hf⟩ := ob hf
    obtain ⟨rfl, rfl⟩ := y1 hf
    exact mw_ireturn dX9_isSign_65 rfl (zok_of e24) hk
  refine mw_icmp_eq (tgt := 60) dX9_isSign_3 rfl (fun c1 => ?_) (fun c1 => ?_)
  · rw [if_pos c1] at r22
    refine mw_iconst (v := 1) dX9_isSign_60 (by decide) ?_
    refine mw_goto (tgt := 65) dX9_isSign_61 rfl ?_
    obtain ⟨rfl, rfl⟩ := y1 r22
    exact MW.sub (subL_n subL_nil) J25
  · rw [if_neg c1] at r22
    refine mw_iload_n (x := v0) dX9_isSign_6 rfl ?_
    refine mw_bipush (v := 40) dX9_isSign_7 (by decide) ?_
    refine mw_icmp_eq (tgt := 60) dX9_isSign_9 rfl (fun c11 => ?_) (fun c11 => ?_)
    · rw [if_pos c11] at r22
      refine mw_iconst (v := 1) dX9_isSign_60 (by decide) ?_
      refine mw_goto (tgt := 65) dX9_isSign_61 rfl ?_
      obtain ⟨rfl, rfl⟩ := y1 r22
      exact MW.sub (subL_n subL_nil) J25
    · rw [if_neg c11] at r22
      refine mw_iload_n (x := v0) dX9_isSign_12 rfl ?_
      refine mw_bipush (v := 41) dX9_isSign_13 (by decide) ?_
      refine mw_icmp_eq (tgt := 60) dX9_isSign_15 rfl (fun c12 => ?_) (fun c12 => ?_)
      · rw [if_pos c12] at r22
        refine mw_iconst (v := 1) dX9_isSign_60 (by decide) ?_
        refine mw_goto (tgt := 65) dX9_isSign_61 rfl ?_
        obtain ⟨rfl, rfl⟩ := y1 r22
        exact MW.sub (subL_n subL_nil) J25
      · rw [if_neg c12] at r22
        refine mw_iload_n (x := v0) dX9_isSign_18 rfl ?_
        refine mw_bipush (v := 60) dX9_isSign_19 (by decide) ?_
        refine mw_icmp_eq (tgt := 60) dX9_isSign_21 rfl (fun c13 => ?_) (fun c13 => ?_)
        · rw [if_pos c13] at r22
          refine mw_iconst (v := 1) dX9_isSign_60 (by decide) ?_
          refine mw_goto (tgt := 65) dX9_isSign_61 rfl ?_
          obtain ⟨rfl, rfl⟩ := y1 r22
          exact MW.sub (subL_n subL_nil) J25
        · rw [if_neg c13] at r22
          refine mw_iload_n (x := v0) dX9_isSign_24 rfl ?_
          refine mw_bipush (v := 62) dX9_isSign_25 (by decide) ?_
          refine mw_icmp_eq (tgt := 60) dX9_isSign_27 rfl (fun c14 => ?_) (fun c14 => ?_)
          · rw [if_pos c14] at r22
            refine mw_iconst (v := 1) dX9_isSign_60 (by decide) ?_
            refine mw_goto (tgt := 65) dX9_isSign_61 rfl ?_
            obtain ⟨rfl, rfl⟩ := y1 r22
            exact MW.sub (subL_n subL_nil) J25
          · rw [if_neg c14] at r22
            refine mw_iload_n (x := v0) dX9_isSign_30 rfl ?_
            refine mw_bipush (v := 61) dX9_isSign_31 (by decide) ?_
            refine mw_icmp_eq (tgt := 60) dX9_isSign_33 rfl (fun c15 => ?_) (fun c15 => ?_)
            · rw [if_pos c15] at r22
              refine mw_iconst (v := 1) dX9_isSign_60 (by decide) ?_
              refine mw_goto (tgt := 65) dX9_isSign_61 rfl ?_
              obtain ⟨rfl, rfl⟩ := y1 r22
              exact MW.sub (subL_n subL_nil) J25
            · rw [if_neg c15] at r22
              refine mw_iload_n (x := v0) dX9_isSign_36 rfl ?_
              refine mw_bipush (v := 43) dX9_isSign_37 (by decide) ?_
              refine mw_icmp_eq (tgt := 60) dX9_isSign_39 rfl (fun c16 => ?_) (fun c16 => ?_)
              · rw [if_pos c16] at r22
                refine mw_iconst (v := 1) dX9_isSign_60 (by decide) ?_
                refine mw_goto (tgt := 65) dX9_isSign_61 rfl ?_
                obtain ⟨rfl, rfl⟩ := y1 r22
                exact MW.sub (subL_n subL_nil) J25
              · rw [if_neg c16] at r22
                refine mw_iload_n (x := v0) dX9_isSign_42 rfl ?_
                refine mw_bipush (v := 45) dX9_isSign_43 (by decide) ?_
                refine mw_icmp_eq (tgt := 60) dX9_isSign_45 rfl (fun c17 => ?_) (fun c17 => ?_)
                · rw [if_pos c17] at r22
                  refine mw_iconst (v := 1) dX9_isSign_60 (by decide) ?_
                  refine mw_goto (tgt := 65) dX9_isSign_61 rfl ?_
                  obtain ⟨rfl, rfl⟩ := y1 r22
                  exact MW.sub (subL_n subL_nil) J25
                · rw [if_neg c17] at r22
                  refine mw_iload_n (x := v0) dX9_isSign_48 rfl ?_
                  refine mw_bipush (v := 42) dX9_isSign_49 (by decide) ?_
                  refine mw_icmp_eq (tgt := 60) dX9_isSign_51 rfl (fun c18 => ?_) (fun c18 => ?_)
                  · rw [if_pos c18] at r22
                    refine mw_iconst (v := 1) dX9_isSign_60 (by decide) ?_
                    refine mw_goto (tgt := 65) dX9_isSign_61 rfl ?_
                    obtain ⟨rfl, rfl⟩ := y1 r22
                    exact MW.sub (subL_n subL_nil) J25
                  · rw [if_neg c18] at r22
                    refine mw_iload_n (x := v0) dX9_isSign_54 rfl ?_
                    refine mw_bipush (v := 47) dX9_isSign_55 (by decide) ?_
                    refine mw_icmp_ne (tgt := 64) dX9_isSign_57 rfl (fun c19 => ?_) (fun c19 => ?_)
                    · rw [if_neg c19] at r22
                      refine mw_iconst (v := 0) dX9_isSign_64 (by decide) ?_
                      obtain ⟨rfl, rfl⟩ := y1 r22
                      exact MW.sub (subL_n subL_nil) J25
                    · rw [if_pos c19] at r22
                      refine mw_iconst (v := 1) dX9_isSign_60 (by decide) ?_
                      refine mw_goto (tgt := 65) dX9_isSign_61 rfl ?_
                      obtain ⟨rfl, rfl⟩ := y1 r22
                      exact MW.sub (subL_n subL_nil) J25
def f_X9_next_L8 : Nat → Nat → Hp → Option ((Hp))
  | 0, _, _ => none
  | n + 1, a0, h =>
    (getI h (some a0) 8 6).bind fun x5 =>
    (getI h (some a0) 8 3).bind fun x7 =>
    if x7 ≤ x5 then
      some h
    else
      (getI h (some a0) 8 6).bind fun x10 =>
      (rc h (some a0) 8).bind fun g14 =>
      b1 (f_X9_sign g14 x10 h) fun x16 h12 =>
      if x16 = (32 : Int32) then
        (getI h12 (some a0) 8 6).bind fun x18 =>
        (putI h12 (some a0) 8 6 (x18 + (1 : Int32))).bind fun h20 =>
        f_X9_next_L8 n a0 h20
      else
        (getI h12 (some a0) 8 6).bind fun x22 =>
        (rc h12 (some a0) 8).bind fun g26 =>
        b1 (f_X9_sign g26 x22 h12) fun x28 h24 =>
        if x28 = (10 : Int32) then
          (getI h24 (some a0) 8 6).bind fun x30 =>
          (putI h24 (some a0) 8 6 (x30 + (1 : Int32))).bind fun h32 =>
          f_X9_next_L8 n a0 h32
        else
          some h24
def f_X9_next_L245 : Nat → Nat → Hp → Option ((Hp))
  | 0, _, _ => none
  | n + 1, a0, h =>
    (getI h (some a0) 8 7).bind fun x74 =>
    (rc h (some a0) 8).bind fun g78 =>
    b1 (f_X9_sign g78 x74 h) fun x80 h76 =>
    b1 (f_X9_isDigit x80 h76) fun x83 h81 =>
    if x83 = (0 : Int32) then
      some h81
    else
      (getI h81 (some a0) 8 7).bind fun x85 =>
      (getI h81 (some a0) 8 6).bind fun x87 =>
      Option.bind ((if (4 : Int32) ≤ (x85 - x87) then
          some h81
        else
          (getI h81 (some a0) 8 9).bind fun x101 =>
          (getI h81 (some a0) 8 7).bind fun x103 =>
          (rc h81 (some a0) 8).bind fun g107 =>
          b1 (f_X9_sign g107 x103 h81) fun x109 h105 =>
          (putI h105 (some a0) 8 9 ((((10 : Int32) * x101) + x109) - (48 : Int32))).bind fun h110 =>
          some h110 : Option (Hp))) fun h112 =>
      (getI h112 (some a0) 8 7).bind fun x114 =>
      (putI h112 (some a0) 8 7 (x114 + (1 : Int32))).bind fun h116 =>
      f_X9_next_L245 n a0 h116
def f_X9_next_L119 : Nat → Nat → Hp → Option ((Hp))
  | 0, _, _ => none
  | n + 1, a0, h =>
    (getI h (some a0) 8 7).bind fun x153 =>
    (rc h (some a0) 8).bind fun g157 =>
    b1 (f_X9_sign g157 x153 h) fun x159 h155 =>
    b1 (f_X9_isLetter x159 h155) fun x162 h160 =>
    if x162 = (0 : Int32) then
      some h160
    else
      (getI h160 (some a0) 8 7).bind fun x164 =>
      (putI h160 (some a0) 8 7 (x164 + (1 : Int32))).bind fun h166 =>
      f_X9_next_L119 n a0 h166
def f_X9_next_L156 : Nat → Nat → Int32 → Hp → Option ((Hp))
  | 0, _, _, _ => none
  | n + 1, a0, v2, h =>
    (getI h (some a0) 8 7).bind fun x173 =>
    if x173 ≤ v2 then
      some h
    else
      (getI h (some a0) 8 6).bind fun x176 =>
      if (x176 + (8 : Int32)) ≤ v2 then
        some h
      else
        (getJ h (some a0) 8 10).bind fun x179 =>
        (rc h (some a0) 8).bind fun g183 =>
        b1 (f_X9_sign g183 v2 h) fun x185 h181 =>
        (putJ h181 (some a0) 8 10 ((x179 <<< ((8 : Int32).toInt64 &&& 63)) ||| (x185.toInt64))).bind fun h186 =>
        f_X9_next_L156 n a0 (v2 + 1) h186
def f_X9_next (a0 : Nat) (h : Hp) : Option (Hp) :=
  (getI h (some a0) 8 7).bind fun x1 =>
  (putI h (some a0) 8 6 x1).bind fun h3 =>
  (f_X9_next_L8 fu a0 h3).bind fun h34 =>
  (getI h34 (some a0) 8 6).bind fun x35 =>
  (rc h34 (some a0) 8).bind fun g39 =>
  b1 (f_X9_sign g39 x35 h34) fun x41 h37 =>
  (getI h37 (some a0) 8 6).bind fun x42 =>
  (putI h37 (some a0) 8 7 (x42 + (1 : Int32))).bind fun h44 =>
  (getI h44 (some a0) 8 6).bind fun x46 =>
  (getI h44 (some a0) 8 3).bind fun x48 =>
  Option.bind ((if x46 < x48 then
      b1 (f_X9_isLetter x41 h44) fun x215 h213 =>
      if x215 = (0 : Int32) then
        b1 (f_X9_isDigit x41 h213) fun x219 h217 =>
        if x219 = (0 : Int32) then
          b1 (f_X9_isSign x41 h217) fun x223 h221 =>
          b1 ((if x223 = (0 : Int32) then
              some (1, h221)
            else
              some (4, h221) : Option (Int32 × Hp))) fun w225 h226 =>
          (putI h226 (some a0) 8 8 w225).bind fun h228 =>
          some h228
        else
          (putI h217 (some a0) 8 9 0).bind fun h230 =>
          (getI h230 (some a0) 8 6).bind fun x232 =>
          (putI h230 (some a0) 8 7 x232).bind fun h234 =>
          (f_X9_next_L245 fu a0 h234).bind fun h236 =>
          (getI h236 (some a0) 8 7).bind fun x237 =>
          (getI h236 (some a0) 8 6).bind fun x239 =>
          b1 ((if (4 : Int32) < (x237 - x239) then
              some (1, h236)
            else
              (getI h236 (some a0) 8 7).bind fun x253 =>
              (rc h236 (some a0) 8).bind fun g257 =>
              b1 (f_X9_sign g257 x253 h236) fun x259 h255 =>
              b1 (f_X9_isLetter x259 h255) fun x262 h260 =>
              if x262 = (0 : Int32) then
                some (3, h260)
              else
                some (1, h260) : Option (Int32 × Hp))) fun w264 h265 =>
          (putI h265 (some a0) 8 8 w264).bind fun h267 =>
          some h267
      else
        (f_X9_next_L119 fu a0 h213).bind fun h271 =>
        (putJ h271 (some a0) 8 10 0).bind fun h272 =>
        (getI h272 (some a0) 8 6).bind fun x274 =>
        (f_X9_next_L156 fu a0 x274 h272).bind fun h276 =>
        (getI h276 (some a0) 8 7).bind fun x277 =>
        (getI h276 (some a0) 8 6).bind fun x279 =>
        b1 ((if (x277 - x279) ≤ (8 : Int32) then
            some (2, h276)
          else
            some (1, h276) : Option (Int32 × Hp))) fun w282 h283 =>
        (putI h283 (some a0) 8 8 w282).bind fun h285 =>
        some h285
    else
      (putI h44 (some a0) 8 8 0).bind fun h291 =>
      (getI h291 (some a0) 8 3).bind fun x293 =>
      (putI h291 (some a0) 8 6 x293).bind fun h295 =>
      (getI h295 (some a0) 8 3).bind fun x297 =>
      (putI h295 (some a0) 8 7 x297).bind fun h299 =>
      some h299 : Option (Hp))) fun h301 =>
  some h301
set_option maxHeartbeats 4000000 in
theorem tl_X9_next_8 (E : En) (d : Nat) {mc ms : Nat} {K : Option Vv → Hp → Prop} : ∀ (n : Nat) (a0 : Nat) (h : Hp) (hz : Hp), f_X9_next_L8 n a0 h = some hz → MW E m_X9_next (d + 1) mc ms 58 [some (vq (some a0)), none, none] [] hz K → MW E m_X9_next (d + 1) mc ms 8 [some (vq (some a0)), none, none] [] h K := by
  intro n
  induction n with
  | zero => intro a0 h hz hf; exact nomatch (show none = some _ from hf)
  | succ n ih =>
    intro a0 h hz hf hX58
    rw [f_X9_next_L8] at hf
    refine mw_aload_n (x := (some a0)) dX9_next_8 rfl ?_
    obtain ⟨x5, e6, hf⟩ := ob hf
    refine ml_getI dX9_next_9 fl_RX9_20 rfl e6 ?_
    refine mw_aload_n (x := (some a0)) dX9_next_12 rfl ?_
    obtain ⟨x7, e8, hf⟩ := ob hf
    refine ml_getI dX9_next_13 fl_RX9_1 rfl e8 ?_
    refine mw_icmp_ge (tgt := 58) dX9_next_16 rfl (fun c9 => ?_) (fun c9 => ?_)
    · rw [if_pos c9] at hf
      obtain rfl := y0 hf
      exact MW.sub (subL_s (subL_n (subL_n subL_nil))) hX58
    · rw [if_neg c9] at hf
      refine mw_aload_n (x := (some a0)) dX9_next_19 rfl ?_
      refine mw_aload_n (x := (some a0)) dX9_next_20 rfl ?_
      obtain ⟨x10, e11, hf⟩ := ob hf
      refine ml_getI dX9_next_21 fl_RX9_20 rfl e11 ?_
      obtain ⟨g14, e15, hf⟩ := ob hf
      obtain ⟨x16, h12, e13, hf⟩ := ob1 hf
      refine ml_callV (ci := 8) (mc' := 0) (ms' := 0) [vi x10] dX9_next_24 mk_X9_sign lk_RX9_23 im_X9_sign se_X9_sign (by decide) e15 rfl (Nat.le_of_ble_eq_true rfl) (Nat.le_of_ble_eq_true rfl) (t_X9_sign E _ e13 isR_rfl) ?_
      refine mw_bipush (v := 32) dX9_next_27 (by decide) ?_
      refine mw_icmp_eq (tgt := 45) dX9_next_29 rfl (fun c17 => ?_) (fun c17 => ?_)
      · rw [if_pos c17] at hf
        refine mw_aload_n (x := (some a0)) dX9_next_45 rfl ?_
        refine mw_dupq dX9_next_46 ?_
        obtain ⟨x18, e19, hf⟩ := ob hf
        refine ml_getI dX9_next_47 fl_RX9_20 rfl e19 ?_
        refine mw_iconst (v := 1) dX9_next_50 (by decide) ?_
        refine mw_iadd dX9_next_51 ?_
        obtain ⟨h20, e21, hf⟩ := ob hf
        refine ml_putI dX9_next_52 fl_RX9_20 (Or.inl rfl) rfl rfl e21 ?_
        refine mw_goto (tgt := 8) dX9_next_55 rfl ?_
        exact MW.sub (subL_s (subL_n (subL_n subL_nil))) (ih _ _ _ hf hX58)
      · rw [if_neg c17] at hf
        refine mw_aload_n (x := (some a0)) dX9_next_32 rfl ?_
        refine mw_aload_n (x := (some a0)) dX9_next_33 rfl ?_
        obtain ⟨x22, e23, hf⟩ := ob hf
        refine ml_getI dX9_next_34 fl_RX9_20 rfl e23 ?_
        obtain ⟨g26, e27, hf⟩ := ob hf
        obtain ⟨x28, h24, e25, hf⟩ := ob1 hf
        refine ml_callV (ci := 8) (mc' := 0) (ms' := 0) [vi x22] dX9_next_37 mk_X9_sign lk_RX9_23 im_X9_sign se_X9_sign (by decide) e27 rfl (Nat.le_of_ble_eq_true rfl) (Nat.le_of_ble_eq_true rfl) (t_X9_sign E _ e25 isR_rfl) ?_
        refine mw_bipush (v := 10) dX9_next_40 (by decide) ?_
        refine mw_icmp_ne (tgt := 58) dX9_next_42 rfl (fun c29 => ?_) (fun c29 => ?_)
        · rw [if_neg c29] at hf
          obtain rfl := y0 hf
          exact MW.sub (subL_s (subL_n (subL_n subL_nil))) hX58
        · rw [if_pos c29] at hf
          refine mw_aload_n (x := (some a0)) dX9_next_45 rfl ?_
          refine mw_dupq dX9_next_46 ?_
          obtain ⟨x30, e31, hf⟩ := ob hf
          refine ml_getI dX9_next_47 fl_RX9_20 rfl e31 ?_
          refine mw_iconst (v := 1) dX9_next_50 (by decide) ?_
          refine mw_iadd dX9_next_51 ?_
          obtain ⟨h32, e33, hf⟩ := ob hf
          refine ml_putI dX9_next_52 fl_RX9_20 (Or.inl rfl) rfl rfl e33 ?_
          refine mw_goto (tgt := 8) dX9_next_55 rfl ?_
          exact MW.sub (subL_s (subL_n (subL_n subL_nil))) (ih _ _ _ hf hX58)
set_option maxHeartbeats 4000000 in
theorem tl_X9_next_245 (E : En) (d : Nat) {mc ms : Nat} {K : Option Vv → Hp → Prop} : ∀ (n : Nat) (a0 : Nat) (h : Hp) (hz : Hp), f_X9_next_L245 n a0 h = some hz → MW E m_X9_next (d + 1) mc ms 308 [some (vq (some a0)), none, none] [] hz K → MW E m_X9_next (d + 1) mc ms 245 [some (vq (some a0)), none, none] [] h K := by
  intro n
  induction n with
  | zero => intro a0 h hz hf; exact nomatch (show none = some _ from hf)
  | succ n ih =>
    intro a0 h hz hf hX308
    rw [f_X9_next_L245] at hf
    refine mw_aload_n (x := (some a0)) dX9_next_245 rfl ?_
    refine mw_aload_n (x := (some a0)) dX9_next_246 rfl ?_
    obtain ⟨x74, e75, hf⟩ := ob hf
    refine ml_getI dX9_next_247 fl_RX9_17 rfl e75 ?_
    obtain ⟨g78, e79, hf⟩ := ob hf
    obtain ⟨x80, h76, e77, hf⟩ := ob1 hf
    refine ml_callV (ci := 8) (mc' := 0) (ms' := 0) [vi x74] dX9_next_250 mk_X9_sign lk_RX9_23 im_X9_sign se_X9_sign (by decide) e79 rfl (Nat.le_of_ble_eq_true rfl) (Nat.le_of_ble_eq_true rfl) (t_X9_sign E _ e77 isR_rfl) ?_
    obtain ⟨x83, h81, e82, hf⟩ := ob1 hf
    refine ml_callS (mc' := 0) (ms' := 0) [vi x80] dX9_next_253 mk_X9_isDigit lk_RX9_38 st_X9_isDigit rfl (Nat.le_of_ble_eq_true rfl) (Nat.le_of_ble_eq_true rfl) (t_X9_isDigit E _ e82 isR_rfl) ?_
    refine mw_if_eq (tgt := 308) dX9_next_256 rfl (fun c84 => ?_) (fun c84 => ?_)
    · rw [if_pos c84] at hf
      obtain rfl := y0 hf
      exact MW.sub (subL_s (subL_n (subL_n subL_nil))) hX308
    · rw [if_neg c84] at hf
      refine mw_aload_n (x := (some a0)) dX9_next_259 rfl ?_
      obtain ⟨x85, e86, hf⟩ := ob hf
      refine ml_getI dX9_next_260 fl_RX9_17 rfl e86 ?_
      refine mw_aload_n (x := (some a0)) dX9_next_263 rfl ?_
      obtain ⟨x87, e88, hf⟩ := ob hf
      refine ml_getI dX9_next_264 fl_RX9_20 rfl e88 ?_
      refine mw_isub dX9_next_267 ?_
      refine mw_iconst (v := 4) dX9_next_268 (by decide) ?_
      obtain ⟨h112, r113, hf⟩ := ob hf
      have J305 : MW E m_X9_next (d + 1) mc ms 295 [some (vq (some a0)), none, none] [] h112 K := by
        refine mw_aload_n (x := (some a0)) dX9_next_295 rfl ?_
        refine mw_dupq dX9_next_296 ?_
        obtain ⟨x114, e115, hf⟩ := ob hf
        refine ml_getI dX9_next_297 fl_RX9_17 rfl e115 ?_
        refine mw_iconst (v := 1) dX9_next_300 (by decide) ?_
        refine mw_iadd dX9_next_301 ?_
        obtain ⟨h116, e117, hf⟩ := ob hf
        refine ml_putI dX9_next_302 fl_RX9_17 (Or.inl rfl) rfl rfl e117 ?_
        refine mw_goto (tgt := 245) dX9_next_305 rfl ?_
        exact MW.sub (subL_s (subL_n (subL_n subL_nil))) (ih _ _ _ hf hX308)
      refine mw_icmp_ge (tgt := 295) dX9_next_269 rfl (fun c89 => ?_) (fun c89 => ?_)
      · rw [if_pos c89] at r113
        obtain rfl := y0 r113
        exact MW.sub (subL_s (subL_n (subL_n subL_nil))) J305
      · rw [if_neg c89] at r113
        refine mw_aload_n (x := (some a0)) dX9_next_272 rfl ?_
        refine mw_bipush (v := 10) dX9_next_273 (by decide) ?_
        refine mw_aload_n (x := (some a0)) dX9_next_275 rfl ?_
        obtain ⟨x101, e102, r113⟩ := ob r113
        refine ml_getI dX9_next_276 fl_RX9_41 rfl e102 ?_
        refine mw_imul dX9_next_279 ?_
        refine mw_aload_n (x := (some a0)) dX9_next_280 rfl ?_
        refine mw_aload_n (x := (some a0)) dX9_next_281 rfl ?_
        obtain ⟨x103, e104, r113⟩ := ob r113
        refine ml_getI dX9_next_282 fl_RX9_17 rfl e104 ?_
        obtain ⟨g107, e108, r113⟩ := ob r113
        obtain ⟨x109, h105, e106, r113⟩ := ob1 r113
        refine ml_callV (ci := 8) (mc' := 0) (ms' := 0) [vi x103] dX9_next_285 mk_X9_sign lk_RX9_23 im_X9_sign se_X9_sign (by decide) e108 rfl (Nat.le_of_ble_eq_true rfl) (Nat.le_of_ble_eq_true rfl) (t_X9_sign E _ e106 isR_rfl) ?_
        refine mw_iadd dX9_next_288 ?_
        refine mw_bipush (v := 48) dX9_next_289 (by decide) ?_
        refine mw_isub dX9_next_291 ?_
        obtain ⟨h110, e111, r113⟩ := ob r113
        refine ml_putI dX9_next_292 fl_RX9_41 (Or.inl rfl) rfl rfl e111 ?_
        obtain rfl := y0 r113
        exact MW.sub (subL_s (subL_n (subL_n subL_nil))) J305
set_option maxHeartbeats 4000000 in
theorem tl_X9_next_119 (E : En) (d : Nat) {mc ms : Nat} {K : Option Vv → Hp → Prop} : ∀ (n : Nat) (a0 : Nat) (h : Hp) (hz : Hp), f_X9_next_L119 n a0 h = some hz → MW E m_X9_next (d + 1) mc ms 146 [some (vq (some a0)), none, none] [] hz K → MW E m_X9_next (d + 1) mc ms 119 [some (vq (some a0)), none, none] [] h K := by
  intro n
  induction n with
  | zero => intro a0 h hz hf; exact nomatch (show none = some _ from hf)
  | succ n ih =>
    intro a0 h hz hf hX146
    rw [f_X9_next_L119] at hf
    refine mw_aload_n (x := (some a0)) dX9_next_119 rfl ?_
    refine mw_aload_n (x := (some a0)) dX9_next_120 rfl ?_
    obtain ⟨x153, e154, hf⟩ := ob hf
    refine ml_getI dX9_next_121 fl_RX9_17 rfl e154 ?_
    obtain ⟨g157, e158, hf⟩ := ob hf
    obtain ⟨x159, h155, e156, hf⟩ := ob1 hf
    refine ml_callV (ci := 8) (mc' := 0) (ms' := 0) [vi x153] dX9_next_124 mk_X9_sign lk_RX9_23 im_X9_sign se_X9_sign (by decide) e158 rfl (Nat.le_of_ble_eq_true rfl) (Nat.le_of_ble_eq_true rfl) (t_X9_sign E _ e156 isR_rfl) ?_
    obtain ⟨x162, h160, e161, hf⟩ := ob1 hf
    refine ml_callS (mc' := 0) (ms' := 0) [vi x159] dX9_next_127 mk_X9_isLetter lk_RX9_30 st_X9_isLetter rfl (Nat.le_of_ble_eq_true rfl) (Nat.le_of_ble_eq_true rfl) (t_X9_isLetter E _ e161 isR_rfl) ?_
    refine mw_if_eq (tgt := 146) dX9_next_130 rfl (fun c163 => ?_) (fun c163 => ?_)
    · rw [if_pos c163] at hf
      obtain rfl := y0 hf
      exact MW.sub (subL_s (subL_n (subL_n subL_nil))) hX146
    · rw [if_neg c163] at hf
      refine mw_aload_n (x := (some a0)) dX9_next_133 rfl ?_
      refine mw_dupq dX9_next_134 ?_
      obtain ⟨x164, e165, hf⟩ := ob hf
      refine ml_getI dX9_next_135 fl_RX9_17 rfl e165 ?_
      refine mw_iconst (v := 1) dX9_next_138 (by decide) ?_
      refine mw_iadd dX9_next_139 ?_
      obtain ⟨h166, e167, hf⟩ := ob hf
      refine ml_putI dX9_next_140 fl_RX9_17 (Or.inl rfl) rfl rfl e167 ?_
      refine mw_goto (tgt := 119) dX9_next_143 rfl ?_
      exact MW.sub (subL_s (subL_n (subL_n subL_nil))) (ih _ _ _ hf hX146)
set_option maxHeartbeats 4000000 in
theorem tl_X9_next_156 (E : En) (d : Nat) {mc ms : Nat} {K : Option Vv → Hp → Prop} : ∀ (n : Nat) (a0 : Nat) (v2 : Int32) (h : Hp) (hz : Hp), f_X9_next_L156 n a0 v2 h = some hz → MW E m_X9_next (d + 1) mc ms 199 [some (vq (some a0)), none, none] [] hz K → MW E m_X9_next (d + 1) mc ms 156 [some (vq (some a0)), none, some (vi v2)] [] h K := by
  intro n
  induction n with
  | zero => intro a0 v2 h hz hf; exact nomatch (show none = some _ from hf)
  | succ n ih =>
    intro a0 v2 h hz hf hX199
    rw [f_X9_next_L156] at hf
    refine mw_iload_n (x := v2) dX9_next_156 rfl ?_
    refine mw_aload_n (x := (some a0)) dX9_next_157 rfl ?_
    obtain ⟨x173, e174, hf⟩ := ob hf
    refine ml_getI dX9_next_158 fl_RX9_17 rfl e174 ?_
    refine mw_icmp_ge (tgt := 199) dX9_next_161 rfl (fun c175 => ?_) (fun c175 => ?_)
    · rw [if_pos c175] at hf
      obtain rfl := y0 hf
      exact MW.sub (subL_s (subL_n (subL_n subL_nil))) hX199
    · rw [if_neg c175] at hf
      refine mw_iload_n (x := v2) dX9_next_164 rfl ?_
      refine mw_aload_n (x := (some a0)) dX9_next_165 rfl ?_
      obtain ⟨x176, e177, hf⟩ := ob hf
      refine ml_getI dX9_next_166 fl_RX9_20 rfl e177 ?_
      refine mw_bipush (v := 8) dX9_next_169 (by decide) ?_
      refine mw_iadd dX9_next_171 ?_
      refine mw_icmp_ge (tgt := 199) dX9_next_172 rfl (fun c178 => ?_) (fun c178 => ?_)
      · rw [if_pos c178] at hf
        obtain rfl := y0 hf
        exact MW.sub (subL_s (subL_n (subL_n subL_nil))) hX199
      · rw [if_neg c178] at hf
        refine mw_aload_n (x := (some a0)) dX9_next_175 rfl ?_
        refine mw_aload_n (x := (some a0)) dX9_next_176 rfl ?_
        obtain ⟨x179, e180, hf⟩ := ob hf
        refine ml_getJ dX9_next_177 fl_RX9_34 rfl e180 ?_
        refine mw_bipush (v := 8) dX9_next_180 (by decide) ?_
        refine mw_lshl dX9_next_182 ?_
        refine mw_aload_n (x := (some a0)) dX9_next_183 rfl ?_
        refine mw_iload_n (x := v2) dX9_next_184 rfl ?_
        obtain ⟨g183, e184, hf⟩ := ob hf
        obtain ⟨x185, h181, e182, hf⟩ := ob1 hf
        refine ml_callV (ci := 8) (mc' := 0) (ms' := 0) [vi v2] dX9_next_185 mk_X9_sign lk_RX9_23 im_X9_sign se_X9_sign (by decide) e184 rfl (Nat.le_of_ble_eq_true rfl) (Nat.le_of_ble_eq_true rfl) (t_X9_sign E _ e182 isR_rfl) ?_
        refine mw_i2l dX9_next_188 ?_
        refine mw_lor dX9_next_189 ?_
        obtain ⟨h186, e187, hf⟩ := ob hf
        refine ml_putJ dX9_next_190 fl_RX9_34 (Or.inl rfl) rfl rfl e187 ?_
        refine mw_iinc (x := v2) (v := v2 + 1) dX9_next_193 rfl rfl (by decide) rfl ?_
        refine mw_goto (tgt := 156) dX9_next_196 rfl ?_
        exact MW.sub (subL_s (subL_n (subL_s subL_nil))) (ih _ _ _ _ hf hX199)
set_option maxHeartbeats 4000000 in
theorem t_X9_next (E : En) (d : Nat) {mc ms : Nat} {a0 : Nat} {h h' : Hp} {K : Option Vv → Hp → Prop} (hf : f_X9_next a0 h = some h') (hk : K none h') : MC E m_X9_next (d + 1) mc ms [vq (some a0)] h K := by
  unfold f_X9_next at hf
  show MW E m_X9_next (d + 1) mc ms 0 [some (vq (some a0)), none, none] [] h K
  refine mw_aload_n (x := (some a0)) dX9_next_0 rfl ?_
  refine mw_aload_n (x := (some a0)) dX9_next_1 rfl ?_
  obtain ⟨x1, e2, hf⟩ := ob hf
  refine ml_getI dX9_next_2 fl_RX9_17 rfl e2 ?_
  obtain ⟨h3, e4, hf⟩ := ob hf
  refine ml_putI dX9_next_5 fl_RX9_20 (Or.inl rfl) rfl rfl e4 ?_
  obtain ⟨h34, e303, hf⟩ := ob hf
  refine MW.sub (subL_s (subL_n (subL_n subL_nil))) (tl_X9_next_8 E d _ _ _ _ e303 ?_)
  refine mw_aload_n (x := (some a0)) dX9_next_58 rfl ?_
  refine mw_aload_n (x := (some a0)) dX9_next_59 rfl ?_
  obtain ⟨x35, e36, hf⟩ := ob hf
  refine ml_getI dX9_next_60 fl_RX9_20 rfl e36 ?_
  obtain ⟨g39, e40, hf⟩ := ob hf
  obtain ⟨x41, h37, e38, hf⟩ := ob1 hf
  refine ml_callV (ci := 8) (mc' := 0) (ms' := 0) [vi x35] dX9_next_63 mk_X9_sign lk_RX9_23 im_X9_sign se_X9_sign (by decide) e40 rfl (Nat.le_of_ble_eq_true rfl) (Nat.le_of_ble_eq_true rfl) (t_X9_sign E _ e38 isR_rfl) ?_
  refine mw_istore_n dX9_next_66 (by decide) rfl ?_
  refine mw_aload_n (x := (some a0)) dX9_next_67 rfl ?_
  refine mw_aload_n (x := (some a0)) dX9_next_68 rfl ?_
  obtain ⟨x42, e43, hf⟩ := ob hf
  refine ml_getI dX9_next_69 fl_RX9_20 rfl e43 ?_
  refine mw_iconst (v := 1) dX9_next_72 (by decide) ?_
  refine mw_iadd dX9_next_73 ?_
  obtain ⟨h44, e45, hf⟩ := ob hf
  refine ml_putI dX9_next_74 fl_RX9_17 (Or.inl rfl) rfl rfl e45 ?_
  refine mw_aload_n (x := (some a0)) dX9_next_77 rfl ?_
  obtain ⟨x46, e47, hf⟩ := ob hf
  refine ml_getI dX9_next_78 fl_RX9_20 rfl e47 ?_
  refine mw_aload_n (x := (some a0)) dX9_next_81 rfl ?_
  obtain ⟨x48, e49, hf⟩ := ob hf
  refine ml_getI dX9_next_82 fl_RX9_1 rfl e49 ?_
  obtain ⟨h301, r302, hf⟩ := ob hf
  have J306 : MW E m_X9_next (d + 1) mc ms 363 [none, none, none] [] h301 K := by
    obtain rfl := y0 hf
    exact mw_return dX9_next_363 rfl hk
  refine mw_icmp_lt (tgt := 112) dX9_next_85 rfl (fun c50 => ?_) (fun c50 => ?_)
  · rw [if_pos c50] at r302
    refine mw_iload_n (x := x41) dX9_next_112 rfl ?_
    obtain ⟨x215, h213, e214, r302⟩ := ob1 r302
    refine ml_callS (mc' := 0) (ms' := 0) [vi x41] dX9_next_113 mk_X9_isLetter lk_RX9_30 st_X9_isLetter rfl (Nat.le_of_ble_eq_true rfl) (Nat.le_of_ble_eq_true rfl) (t_X9_isLetter E _ e214 isR_rfl) ?_
    refine mw_if_eq (tgt := 225) dX9_next_116 rfl (fun c216 => ?_) (fun c216 => ?_)
    · rw [if_pos c216] at r302
      refine mw_iload_n (x := x41) dX9_next_225 rfl ?_
      obtain ⟨x219, h217, e218, r302⟩ := ob1 r302
      refine ml_callS (mc' := 0) (ms' := 0) [vi x41] dX9_next_226 mk_X9_isDigit lk_RX9_38 st_X9_isDigit rfl (Nat.le_of_ble_eq_true rfl) (Nat.le_of_ble_eq_true rfl) (t_X9_isDigit E _ e218 isR_rfl) ?_
      refine mw_if_eq (tgt := 347) dX9_next_229 rfl (fun c220 => ?_) (fun c220 => ?_)
      · rw [if_pos c220] at r302
        refine mw_aload_n (x := (some a0)) dX9_next_347 rfl ?_
        refine mw_iload_n (x := x41) dX9_next_348 rfl ?_
        obtain ⟨x223, h221, e222, r302⟩ := ob1 r302
        refine ml_callS (mc' := 0) (ms' := 0) [vi x41] dX9_next_349 mk_X9_isSign lk_RX9_44 st_X9_isSign rfl (Nat.le_of_ble_eq_true rfl) (Nat.le_of_ble_eq_true rfl) (t_X9_isSign E _ e222 isR_rfl) ?_
        obtain ⟨w225, h226, r227, r302⟩ := ob1 r302
        have J307 : MW E m_X9_next (d + 1) mc ms 360 [none, none, none] [vi w225, vq (some a0)] h226 K := by
          obtain ⟨h228, e229, r302⟩ := ob r302
          refine ml_putI dX9_next_360 fl_RX9_27 (Or.inl rfl) rfl rfl e229 ?_
          obtain rfl := y0 r302
          exact MW.sub (subL_n (subL_n (subL_n subL_nil))) J306
        refine mw_if_eq (tgt := 359) dX9_next_352 rfl (fun c224 => ?_) (fun c224 => ?_)
        · rw [if_pos c224] at r227
          refine mw_iconst (v := 1) dX9_next_359 (by decide) ?_
          obtain ⟨rfl, rfl⟩ := y1 r227
          exact MW.sub (subL_n (subL_n (subL_n subL_nil))) J307
        · rw [if_neg c224] at r227
          refine mw_iconst (v := 4) dX9_next_355 (by decide) ?_
          refine mw_goto (tgt := 360) dX9_next_356 rfl ?_
          obtain ⟨rfl, rfl⟩ := y1 r227
          exact MW.sub (subL_n (subL_n (subL_n subL_nil))) J307
      · rw [if_neg c220] at r302
        refine mw_aload_n (x := (some a0)) dX9_next_232 rfl ?_
        refine mw_iconst (v := 0) dX9_next_233 (by decide) ?_
        obtain ⟨h230, e231, r302⟩ := ob r302
        refine ml_putI dX9_next_234 fl_RX9_41 (Or.inl rfl) rfl rfl e231 ?_
        refine mw_aload_n (x := (some a0)) dX9_next_237 rfl ?_
        refine mw_aload_n (x := (some a0)) dX9_next_238 rfl ?_
        obtain ⟨x232, e233, r302⟩ := ob r302
        refine ml_getI dX9_next_239 fl_RX9_20 rfl e233 ?_
        obtain ⟨h234, e235, r302⟩ := ob r302
        refine ml_putI dX9_next_242 fl_RX9_17 (Or.inl rfl) rfl rfl e235 ?_
        obtain ⟨h236, e269, r302⟩ := ob r302
        refine MW.sub (subL_s (subL_n (subL_n subL_nil))) (tl_X9_next_245 E d _ _ _ _ e269 ?_)
        refine mw_aload_n (x := (some a0)) dX9_next_308 rfl ?_
        refine mw_aload_n (x := (some a0)) dX9_next_309 rfl ?_
        obtain ⟨x237, e238, r302⟩ := ob r302
        refine ml_getI dX9_next_310 fl_RX9_17 rfl e238 ?_
        refine mw_aload_n (x := (some a0)) dX9_next_313 rfl ?_
        obtain ⟨x239, e240, r302⟩ := ob r302
        refine ml_getI dX9_next_314 fl_RX9_20 rfl e240 ?_
        refine mw_isub dX9_next_317 ?_
        refine mw_iconst (v := 4) dX9_next_318 (by decide) ?_
        obtain ⟨w264, h265, r266, r302⟩ := ob1 r302
        have J308 : MW E m_X9_next (d + 1) mc ms 341 [none, none, none] [vi w264, vq (some a0)] h265 K := by
          obtain ⟨h267, e268, r302⟩ := ob r302
          refine ml_putI dX9_next_341 fl_RX9_27 (Or.inl rfl) rfl rfl e268 ?_
          refine mw_goto (tgt := 363) dX9_next_344 rfl ?_
          obtain rfl := y0 r302
          exact MW.sub (subL_n (subL_n (subL_n subL_nil))) J306
        refine mw_icmp_gt (tgt := 336) dX9_next_319 rfl (fun c241 => ?_) (fun c241 => ?_)
        · rw [if_pos c241] at r266
          refine mw_iconst (v := 1) dX9_next_336 (by decide) ?_
          refine mw_goto (tgt := 341) dX9_next_337 rfl ?_
          obtain ⟨rfl, rfl⟩ := y1 r266
          exact MW.sub (subL_n (subL_n (subL_n subL_nil))) J308
        · rw [if_neg c241] at r266
          refine mw_aload_n (x := (some a0)) dX9_next_322 rfl ?_
          refine mw_aload_n (x := (some a0)) dX9_next_323 rfl ?_
          obtain ⟨x253, e254, r266⟩ := ob r266
          refine ml_getI dX9_next_324 fl_RX9_17 rfl e254 ?_
          obtain ⟨g257, e258, r266⟩ := ob r266
          obtain ⟨x259, h255, e256, r266⟩ := ob1 r266
          refine ml_callV (ci := 8) (mc' := 0) (ms' := 0) [vi x253] dX9_next_327 mk_X9_sign lk_RX9_23 im_X9_sign se_X9_sign (by decide) e258 rfl (Nat.le_of_ble_eq_true rfl) (Nat.le_of_ble_eq_true rfl) (t_X9_sign E _ e256 isR_rfl) ?_
          obtain ⟨x262, h260, e261, r266⟩ := ob1 r266
          refine ml_callS (mc' := 0) (ms' := 0) [vi x259] dX9_next_330 mk_X9_isLetter lk_RX9_30 st_X9_isLetter rfl (Nat.le_of_ble_eq_true rfl) (Nat.le_of_ble_eq_true rfl) (t_X9_isLetter E _ e261 isR_rfl) ?_
          refine mw_if_eq (tgt := 340) dX9_next_333 rfl (fun c263 => ?_) (fun c263 => ?_)
          · rw [if_pos c263] at r266
            refine mw_iconst (v := 3) dX9_next_340 (by decide) ?_
            obtain ⟨rfl, rfl⟩ := y1 r266
            exact MW.sub (subL_n (subL_n (subL_n subL_nil))) J308
          · rw [if_neg c263] at r266
            refine mw_iconst (v := 1) dX9_next_336 (by decide) ?_
            refine mw_goto (tgt := 341) dX9_next_337 rfl ?_
            obtain ⟨rfl, rfl⟩ := y1 r266
            exact MW.sub (subL_n (subL_n (subL_n subL_nil))) J308
    · rw [if_neg c216] at r302
      obtain ⟨h271, e289, r302⟩ := ob r302
      refine MW.sub (subL_s (subL_n (subL_n subL_nil))) (tl_X9_next_119 E d _ _ _ _ e289 ?_)
      refine mw_aload_n (x := (some a0)) dX9_next_146 rfl ?_
      refine mw_lconst (v := 0) dX9_next_147 (by decide) ?_
      obtain ⟨h272, e273, r302⟩ := ob r302
      refine ml_putJ dX9_next_148 fl_RX9_34 (Or.inl rfl) rfl rfl e273 ?_
      refine mw_aload_n (x := (some a0)) dX9_next_151 rfl ?_
      obtain ⟨x274, e275, r302⟩ := ob r302
      refine ml_getI dX9_next_152 fl_RX9_20 rfl e275 ?_
      refine mw_istore_n dX9_next_155 (by decide) rfl ?_
      obtain ⟨h276, e287, r302⟩ := ob r302
      refine MW.sub (subL_s (subL_n (subL_s subL_nil))) (tl_X9_next_156 E d _ _ _ _ _ e287 ?_)
      refine mw_aload_n (x := (some a0)) dX9_next_199 rfl ?_
      refine mw_aload_n (x := (some a0)) dX9_next_200 rfl ?_
      obtain ⟨x277, e278, r302⟩ := ob r302
      refine ml_getI dX9_next_201 fl_RX9_17 rfl e278 ?_
      refine mw_aload_n (x := (some a0)) dX9_next_204 rfl ?_
      obtain ⟨x279, e280, r302⟩ := ob r302
      refine ml_getI dX9_next_205 fl_RX9_20 rfl e280 ?_
      refine mw_isub dX9_next_208 ?_
      refine mw_bipush (v := 8) dX9_next_209 (by decide) ?_
      obtain ⟨w282, h283, r284, r302⟩ := ob1 r302
      have J309 : MW E m_X9_next (d + 1) mc ms 219 [none, none, none] [vi w282, vq (some a0)] h283 K := by
        obtain ⟨h285, e286, r302⟩ := ob r302
        refine ml_putI dX9_next_219 fl_RX9_27 (Or.inl rfl) rfl rfl e286 ?_
        refine mw_goto (tgt := 363) dX9_next_222 rfl ?_
        obtain rfl := y0 r302
        exact MW.sub (subL_n (subL_n (subL_n subL_nil))) J306
      refine mw_icmp_le (tgt := 218) dX9_next_211 rfl (fun c281 => ?_) (fun c281 => ?_)
      · rw [if_pos c281] at r284
        refine mw_iconst (v := 2) dX9_next_218 (by decide) ?_
        obtain ⟨rfl, rfl⟩ := y1 r284
        exact MW.sub (subL_n (subL_n (subL_n subL_nil))) J309
      · rw [if_neg c281] at r284
        refine mw_iconst (v := 1) dX9_next_214 (by decide) ?_
        refine mw_goto (tgt := 219) dX9_next_215 rfl ?_
        obtain ⟨rfl, rfl⟩ := y1 r284
        exact MW.sub (subL_n (subL_n (subL_n subL_nil))) J309
  · rw [if_neg c50] at r302
    refine mw_aload_n (x := (some a0)) dX9_next_88 rfl ?_
    refine mw_iconst (v := 0) dX9_next_89 (by decide) ?_
    obtain ⟨h291, e292, r302⟩ := ob r302
    refine ml_putI dX9_next_90 fl_RX9_27 (Or.inl rfl) rfl rfl e292 ?_
    refine mw_aload_n (x := (some a0)) dX9_next_93 rfl ?_
    refine mw_aload_n (x := (some a0)) dX9_next_94 rfl ?_
    obtain ⟨x293, e294, r302⟩ := ob r302
    refine ml_getI dX9_next_95 fl_RX9_1 rfl e294 ?_
    obtain ⟨h295, e296, r302⟩ := ob r302
    refine ml_putI dX9_next_98 fl_RX9_20 (Or.inl rfl) rfl rfl e296 ?_
    refine mw_aload_n (x := (some a0)) dX9_next_101 rfl ?_
    refine mw_aload_n (x := (some a0)) dX9_next_102 rfl ?_
    obtain ⟨x297, e298, r302⟩ := ob r302
    refine ml_getI dX9_next_103 fl_RX9_1 rfl e298 ?_
    obtain ⟨h299, e300, r302⟩ := ob r302
    refine ml_putI dX9_next_106 fl_RX9_17 (Or.inl rfl) rfl rfl e300 ?_
    refine mw_goto (tgt := 363) dX9_next_109 rfl ?_
    obtain rfl := y0 r302
    exact MW.sub (subL_n (subL_n (subL_n subL_nil))) J306
def f_X9_isGood (a0 : Nat) (h : Hp) : Option (Int32 × Hp) :=
  (getI h (some a0) 8 4).bind fun x1 =>
  b1 ((if x1 = (0 : Int32) then
      some (1, h)
    else
      some (0, h) : Option (Int32 × Hp))) fun w4 h5 =>
  (zok w4).bind fun z7 =>
  some (w4, h5)
set_option maxHeartbeats 4000000 in
theorem t_X9_isGood (E : En) (d : Nat) {mc ms : Nat} {a0 : Nat} {h h' : Hp} {r : Int32} {K : Option Vv → Hp → Prop} (hf : f_X9_isGood a0 h = some (r, h')) (hk : K (some (vi r)) h') : MC E m_X9_isGood (d + 0) mc ms [vq (some a0)] h K := by
  unfold f_X9_isGood at hf
  show MW E m_X9_isGood (d + 0) mc ms 0 [some (vq (some a0))] [] h K
  refine mw_aload_n (x := (some a0)) dX9_isGood_0 rfl ?_
  obtain ⟨x1, e2, hf⟩ := ob hf
  refine ml_getI dX9_isGood_1 fl_RX9_11 rfl e2 ?_
  obtain ⟨w4, h5, r6, hf⟩ := ob1 hf
  have J9 : MW E m_X9_isGood (d + 0) mc ms 12 [none] [vi w4] h5 K := by
    obtain ⟨z7, e8, hf⟩ := ob hf
    obtain ⟨rfl, rfl⟩ := y1 hf
    exact mw_ireturn dX9_isGood_12 rfl (zok_of e8) hk
  refine mw_if_ne (tgt := 11) dX9_isGood_4 rfl (fun c3 => ?_) (fun c3 => ?_)
  · rw [if_neg c3] at r6
    refine mw_iconst (v := 0) dX9_isGood_11 (by decide) ?_
    obtain ⟨rfl, rfl⟩ := y1 r6
    exact MW.sub (subL_n subL_nil) J9
  · rw [if_pos c3] at r6
    refine mw_iconst (v := 1) dX9_isGood_7 (by decide) ?_
    refine mw_goto (tgt := 12) dX9_isGood_8 rfl ?_
    obtain ⟨rfl, rfl⟩ := y1 r6
    exact MW.sub (subL_n subL_nil) J9
