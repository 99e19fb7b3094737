theorem dX6_lowerByBanks_0 : decode cX6_lowerByBanks 0 = .ok (.iconst 0, 1) := by decide +kernel
theorem dX6_lowerByBanks_1 : decode cX6_lowerByBanks 1 = .ok (.istore_n 2, 1) := by decide +kernel
theorem dX6_lowerByBanks_2 : decode cX6_lowerByBanks 2 = .ok (.iconst 0, 1) := by decide +kernel
theorem dX6_lowerByBanks_3 : decode cX6_lowerByBanks 3 = .ok (.istore_n 3, 1) := by decide +kernel
theorem dX6_lowerByBanks_4 : decode cX6_lowerByBanks 4 = .ok (.iload_n 3, 1) := by decide +kernel
theorem dX6_lowerByBanks_5 : decode cX6_lowerByBanks 5 = .ok (.aload_n 0, 1) := by decide +kernel
theorem dX6_lowerByBanks_6 : decode cX6_lowerByBanks 6 = .ok (.getfield 47, 3) := by decide +kernel
theorem dX6_lowerByBanks_9 : decode cX6_lowerByBanks 9 = .ok (.if_icmp .ge 178, 3) := by decide +kernel
theorem dX6_lowerByBanks_12 : decode cX6_lowerByBanks 12 = .ok (.iload_n 3, 1) := by decide +kernel
theorem dX6_lowerByBanks_13 : decode cX6_lowerByBanks 13 = .ok (.aload_n 0, 1) := by decide +kernel
theorem dX6_lowerByBanks_14 : decode cX6_lowerByBanks 14 = .ok (.getfield 18, 3) := by decide +kernel
theorem dX6_lowerByBanks_17 : decode cX6_lowerByBanks 17 = .ok (.arraylength, 1) := by decide +kernel
theorem dX6_lowerByBanks_18 : decode cX6_lowerByBanks 18 = .ok (.if_icmp .ge 169, 3) := by decide +kernel
theorem dX6_lowerByBanks_21 : decode cX6_lowerByBanks 21 = .ok (.aload_n 0, 1) := by decide +kernel
theorem dX6_lowerByBanks_22 : decode cX6_lowerByBanks 22 = .ok (.getfield 9, 3) := by decide +kernel
theorem dX6_lowerByBanks_25 : decode cX6_lowerByBanks 25 = .ok (.iload_n 3, 1) := by decide +kernel
theorem dX6_lowerByBanks_26 : decode cX6_lowerByBanks 26 = .ok (.iaload, 1) := by decide +kernel
theorem dX6_lowerByBanks_27 : decode cX6_lowerByBanks 27 = .ok (.istore 4, 2) := by decide +kernel
theorem dX6_lowerByBanks_29 : decode cX6_lowerByBanks 29 = .ok (.aload_n 0, 1) := by decide +kernel
theorem dX6_lowerByBanks_30 : decode cX6_lowerByBanks 30 = .ok (.getfield 15, 3) := by decide +kernel
theorem dX6_lowerByBanks_33 : decode cX6_lowerByBanks 33 = .ok (.iload_n 3, 1) := by decide +kernel
theorem dX6_lowerByBanks_34 : decode cX6_lowerByBanks 34 = .ok (.iaload, 1) := by decide +kernel
theorem dX6_lowerByBanks_35 : decode cX6_lowerByBanks 35 = .ok (.istore 5, 2) := by decide +kernel
theorem dX6_lowerByBanks_37 : decode cX6_lowerByBanks 37 = .ok (.iload 4, 2) := by decide +kernel
theorem dX6_lowerByBanks_39 : decode cX6_lowerByBanks 39 = .ok (.ifCond .lt 32, 3) := by decide +kernel
theorem dX6_lowerByBanks_42 : decode cX6_lowerByBanks 42 = .ok (.iload 4, 2) := by decide +kernel
theorem dX6_lowerByBanks_44 : decode cX6_lowerByBanks 44 = .ok (.aload_n 0, 1) := by decide +kernel
theorem dX6_lowerByBanks_45 : decode cX6_lowerByBanks 45 = .ok (.getfield 30, 3) := by decide +kernel
theorem dX6_lowerByBanks_48 : decode cX6_lowerByBanks 48 = .ok (.arraylength, 1) := by decide +kernel
theorem dX6_lowerByBanks_49 : decode cX6_lowerByBanks 49 = .ok (.if_icmp .ge 22, 3) := by decide +kernel
theorem dX6_lowerByBanks_52 : decode cX6_lowerByBanks 52 = .ok (.iload 5, 2) := by decide +kernel
theorem dX6_lowerByBanks_54 : decode cX6_lowerByBanks 54 = .ok (.ifCond .lt 17, 3) := by decide +kernel
theorem dX6_lowerByBanks_57 : decode cX6_lowerByBanks 57 = .ok (.iload 5, 2) := by decide +kernel
theorem dX6_lowerByBanks_59 : decode cX6_lowerByBanks 59 = .ok (.aload_n 0, 1) := by decide +kernel
theorem dX6_lowerByBanks_60 : decode cX6_lowerByBanks 60 = .ok (.getfield 30, 3) := by decide +kernel
theorem dX6_lowerByBanks_63 : decode cX6_lowerByBanks 63 = .ok (.arraylength, 1) := by decide +kernel
theorem dX6_lowerByBanks_64 : decode cX6_lowerByBanks 64 = .ok (.if_icmp .ge 7, 3) := by decide +kernel
theorem dX6_lowerByBanks_67 : decode cX6_lowerByBanks 67 = .ok (.iconst 1, 1) := by decide +kernel
theorem dX6_lowerByBanks_68 : decode cX6_lowerByBanks 68 = .ok (.goto 4, 3) := by decide +kernel
theorem dX6_lowerByBanks_71 : decode cX6_lowerByBanks 71 = .ok (.iconst 0, 1) := by decide +kernel
theorem dX6_lowerByBanks_72 : decode cX6_lowerByBanks 72 = .ok (.istore 6, 2) := by decide +kernel
theorem dX6_lowerByBanks_74 : decode cX6_lowerByBanks 74 = .ok (.iload_n 1, 1) := by decide +kernel
theorem dX6_lowerByBanks_75 : decode cX6_lowerByBanks 75 = .ok (.iload_n 3, 1) := by decide +kernel
theorem dX6_lowerByBanks_76 : decode cX6_lowerByBanks 76 = .ok (.ishr, 1) := by decide +kernel
theorem dX6_lowerByBanks_77 : decode cX6_lowerByBanks 77 = .ok (.iconst 1, 1) := by decide +kernel
theorem dX6_lowerByBanks_78 : decode cX6_lowerByBanks 78 = .ok (.iand, 1) := by decide +kernel
theorem dX6_lowerByBanks_79 : decode cX6_lowerByBanks 79 = .ok (.ifCond .ne 102, 3) := by decide +kernel
theorem dX6_lowerByBanks_82 : decode cX6_lowerByBanks 82 = .ok (.iload 6, 2) := by decide +kernel
theorem dX6_lowerByBanks_84 : decode cX6_lowerByBanks 84 = .ok (.ifCond .eq 97, 3) := by decide +kernel
theorem dX6_lowerByBanks_87 : decode cX6_lowerByBanks 87 = .ok (.aload_n 0, 1) := by decide +kernel
theorem dX6_lowerByBanks_88 : decode cX6_lowerByBanks 88 = .ok (.getfield 30, 3) := by decide +kernel
theorem dX6_lowerByBanks_91 : decode cX6_lowerByBanks 91 = .ok (.iload 5, 2) := by decide +kernel
theorem dX6_lowerByBanks_93 : decode cX6_lowerByBanks 93 = .ok (.iaload, 1) := by decide +kernel
theorem dX6_lowerByBanks_94 : decode cX6_lowerByBanks 94 = .ok (.aload_n 0, 1) := by decide +kernel
theorem dX6_lowerByBanks_95 : decode cX6_lowerByBanks 95 = .ok (.getfield 30, 3) := by decide +kernel
theorem dX6_lowerByBanks_98 : decode cX6_lowerByBanks 98 = .ok (.iload 4, 2) := by decide +kernel
theorem dX6_lowerByBanks_100 : decode cX6_lowerByBanks 100 = .ok (.iaload, 1) := by decide +kernel
theorem dX6_lowerByBanks_101 : decode cX6_lowerByBanks 101 = .ok (.aload_n 0, 1) := by decide +kernel
theorem dX6_lowerByBanks_102 : decode cX6_lowerByBanks 102 = .ok (.getfield 18, 3) := by decide +kernel
theorem dX6_lowerByBanks_105 : decode cX6_lowerByBanks 105 = .ok (.iload_n 3, 1) := by decide +kernel
theorem dX6_lowerByBanks_106 : decode cX6_lowerByBanks 106 = .ok (.iaload, 1) := by decide +kernel
theorem dX6_lowerByBanks_107 : decode cX6_lowerByBanks 107 = .ok (.iadd, 1) := by decide +kernel
theorem dX6_lowerByBanks_108 : decode cX6_lowerByBanks 108 = .ok (.if_icmp .le 26, 3) := by decide +kernel
theorem dX6_lowerByBanks_111 : decode cX6_lowerByBanks 111 = .ok (.aload_n 0, 1) := by decide +kernel
theorem dX6_lowerByBanks_112 : decode cX6_lowerByBanks 112 = .ok (.getfield 30, 3) := by decide +kernel
theorem dX6_lowerByBanks_115 : decode cX6_lowerByBanks 115 = .ok (.iload 5, 2) := by decide +kernel
theorem dX6_lowerByBanks_117 : decode cX6_lowerByBanks 117 = .ok (.aload_n 0, 1) := by decide +kernel
theorem dX6_lowerByBanks_118 : decode cX6_lowerByBanks 118 = .ok (.getfield 30, 3) := by decide +kernel
theorem dX6_lowerByBanks_121 : decode cX6_lowerByBanks 121 = .ok (.iload 4, 2) := by decide +kernel
theorem dX6_lowerByBanks_123 : decode cX6_lowerByBanks 123 = .ok (.iaload, 1) := by decide +kernel
theorem dX6_lowerByBanks_124 : decode cX6_lowerByBanks 124 = .ok (.aload_n 0, 1) := by decide +kernel
theorem dX6_lowerByBanks_125 : decode cX6_lowerByBanks 125 = .ok (.getfield 18, 3) := by decide +kernel
theorem dX6_lowerByBanks_128 : decode cX6_lowerByBanks 128 = .ok (.iload_n 3, 1) := by decide +kernel
theorem dX6_lowerByBanks_129 : decode cX6_lowerByBanks 129 = .ok (.iaload, 1) := by decide +kernel
theorem dX6_lowerByBanks_130 : decode cX6_lowerByBanks 130 = .ok (.iadd, 1) := by decide +kernel
theorem dX6_lowerByBanks_131 : decode cX6_lowerByBanks 131 = .ok (.iastore, 1) := by decide +kernel
theorem dX6_lowerByBanks_132 : decode cX6_lowerByBanks 132 = .ok (.iconst 1, 1) := by decide +kernel
theorem dX6_lowerByBanks_133 : decode cX6_lowerByBanks 133 = .ok (.istore_n 2, 1) := by decide +kernel
theorem dX6_lowerByBanks_134 : decode cX6_lowerByBanks 134 = .ok (.aload_n 0, 1) := by decide +kernel
theorem dX6_lowerByBanks_135 : decode cX6_lowerByBanks 135 = .ok (.getfield 30, 3) := by decide +kernel
theorem dX6_lowerByBanks_138 : decode cX6_lowerByBanks 138 = .ok (.iload 4, 2) := by decide +kernel
theorem dX6_lowerByBanks_140 : decode cX6_lowerByBanks 140 = .ok (.iaload, 1) := by decide +kernel
theorem dX6_lowerByBanks_141 : decode cX6_lowerByBanks 141 = .ok (.aload_n 0, 1) := by decide +kernel
theorem dX6_lowerByBanks_142 : decode cX6_lowerByBanks 142 = .ok (.getfield 30, 3) := by decide +kernel
theorem dX6_lowerByBanks_145 : decode cX6_lowerByBanks 145 = .ok (.iload 5, 2) := by decide +kernel
theorem dX6_lowerByBanks_147 : decode cX6_lowerByBanks 147 = .ok (.iaload, 1) := by decide +kernel
theorem dX6_lowerByBanks_148 : decode cX6_lowerByBanks 148 = .ok (.aload_n 0, 1) := by decide +kernel
theorem dX6_lowerByBanks_149 : decode cX6_lowerByBanks 149 = .ok (.getfield 18, 3) := by decide +kernel
theorem dX6_lowerByBanks_152 : decode cX6_lowerByBanks 152 = .ok (.iload_n 3, 1) := by decide +kernel
theorem dX6_lowerByBanks_153 : decode cX6_lowerByBanks 153 = .ok (.iaload, 1) := by decide +kernel
theorem dX6_lowerByBanks_154 : decode cX6_lowerByBanks 154 = .ok (.isub, 1) := by decide +kernel
theorem dX6_lowerByBanks_155 : decode cX6_lowerByBanks 155 = .ok (.if_icmp .le 26, 3) := by decide +kernel
theorem dX6_lowerByBanks_158 : decode cX6_lowerByBanks 158 = .ok (.aload_n 0, 1) := by decide +kernel
theorem dX6_lowerByBanks_159 : decode cX6_lowerByBanks 159 = .ok (.getfield 30, 3) := by decide +kernel
theorem dX6_lowerByBanks_162 : decode cX6_lowerByBanks 162 = .ok (.iload 4, 2) := by decide +kernel
theorem dX6_lowerByBanks_164 : decode cX6_lowerByBanks 164 = .ok (.aload_n 0, 1) := by decide +kernel
theorem dX6_lowerByBanks_165 : decode cX6_lowerByBanks 165 = .ok (.getfield 30, 3) := by decide +kernel
theorem dX6_lowerByBanks_168 : decode cX6_lowerByBanks 168 = .ok (.iload 5, 2) := by decide +kernel
theorem dX6_lowerByBanks_170 : decode cX6_lowerByBanks 170 = .ok (.iaload, 1) := by decide +kernel
theorem dX6_lowerByBanks_171 : decode cX6_lowerByBanks 171 = .ok (.aload_n 0, 1) := by decide +kernel
theorem dX6_lowerByBanks_172 : decode cX6_lowerByBanks 172 = .ok (.getfield 18, 3) := by decide +kernel
theorem dX6_lowerByBanks_175 : decode cX6_lowerByBanks 175 = .ok (.iload_n 3, 1) := by decide +kernel
theorem dX6_lowerByBanks_176 : decode cX6_lowerByBanks 176 = .ok (.iaload, 1) := by decide +kernel
theorem dX6_lowerByBanks_177 : decode cX6_lowerByBanks 177 = .ok (.isub, 1) := by decide +kernel
theorem dX6_lowerByBanks_178 : decode cX6_lowerByBanks 178 = .ok (.iastore, 1) := by decide +kernel
theorem dX6_lowerByBanks_179 : decode cX6_lowerByBanks 179 = .ok (.iconst 1, 1) := by decide +kernel
theorem dX6_lowerByBanks_180 : decode cX6_lowerByBanks 180 = .ok (.istore_n 2, 1) := by decide +kernel
theorem dX6_lowerByBanks_181 : decode cX6_lowerByBanks 181 = .ok (.iinc 3 1, 3) := by decide +kernel
theorem dX6_lowerByBanks_184 : decode cX6_lowerByBanks 184 = .ok (.goto (-180), 3) := by decide +kernel
theorem dX6_lowerByBanks_187 : decode cX6_lowerByBanks 187 = .ok (.iload_n 2, 1) := by decide +kernel
theorem dX6_lowerByBanks_188 : decode cX6_lowerByBanks 188 = .ok (.ireturn, 1) := by decide +kernel
theorem dX6_comesToRest_0 : decode cX6_comesToRest 0 = .ok (.iconst 0, 1) := by decide +kernel
theorem dX6_comesToRest_1 : decode cX6_comesToRest 1 = .ok (.istore_n 2, 1) := by decide +kernel
theorem dX6_comesToRest_2 : decode cX6_comesToRest 2 = .ok (.iload_n 2, 1) := by decide +kernel
theorem dX6_comesToRest_3 : decode cX6_comesToRest 3 = .ok (.aload_n 0, 1) := by decide +kernel
theorem dX6_comesToRest_4 : decode cX6_comesToRest 4 = .ok (.getfield 103, 3) := by decide +kernel
theorem dX6_comesToRest_7 : decode cX6_comesToRest 7 = .ok (.if_icmp .gt 42, 3) := by decide +kernel
theorem dX6_comesToRest_10 : decode cX6_comesToRest 10 = .ok (.aload_n 0, 1) := by decide +kernel
theorem dX6_comesToRest_11 : decode cX6_comesToRest 11 = .ok (.getfield 30, 3) := by decide +kernel
theorem dX6_comesToRest_14 : decode cX6_comesToRest 14 = .ok (.iconst 0, 1) := by decide +kernel
theorem dX6_comesToRest_15 : decode cX6_comesToRest 15 = .ok (.iaload, 1) := by decide +kernel
theorem dX6_comesToRest_16 : decode cX6_comesToRest 16 = .ok (.aload_n 0, 1) := by decide +kernel
theorem dX6_comesToRest_17 : decode cX6_comesToRest 17 = .ok (.getfield 106, 3) := by decide +kernel
theorem dX6_comesToRest_20 : decode cX6_comesToRest 20 = .ok (.ineg, 1) := by decide +kernel
theorem dX6_comesToRest_21 : decode cX6_comesToRest 21 = .ok (.if_icmp .lt 28, 3) := by decide +kernel
theorem dX6_comesToRest_24 : decode cX6_comesToRest 24 = .ok (.aload_n 0, 1) := by decide +kernel
theorem dX6_comesToRest_25 : decode cX6_comesToRest 25 = .ok (.invokevirtual 127, 3) := by decide +kernel
theorem dX6_comesToRest_28 : decode cX6_comesToRest 28 = .ok (.istore_n 3, 1) := by decide +kernel
theorem dX6_comesToRest_29 : decode cX6_comesToRest 29 = .ok (.aload_n 0, 1) := by decide +kernel
theorem dX6_comesToRest_30 : decode cX6_comesToRest 30 = .ok (.iload_n 1, 1) := by decide +kernel
theorem dX6_comesToRest_31 : decode cX6_comesToRest 31 = .ok (.invokevirtual 131, 3) := by decide +kernel
theorem dX6_comesToRest_34 : decode cX6_comesToRest 34 = .ok (.ifCond .ne 9, 3) := by decide +kernel
theorem dX6_comesToRest_37 : decode cX6_comesToRest 37 = .ok (.iload_n 3, 1) := by decide +kernel
theorem dX6_comesToRest_38 : decode cX6_comesToRest 38 = .ok (.ifCond .ne 5, 3) := by decide +kernel
theorem dX6_comesToRest_41 : decode cX6_comesToRest 41 = .ok (.iconst 1, 1) := by decide +kernel
theorem dX6_comesToRest_42 : decode cX6_comesToRest 42 = .ok (.ireturn, 1) := by decide +kernel
theorem dX6_comesToRest_43 : decode cX6_comesToRest 43 = .ok (.iinc 2 1, 3) := by decide +kernel
theorem dX6_comesToRest_46 : decode cX6_comesToRest 46 = .ok (.goto (-44), 3) := by decide +kernel
theorem dX6_comesToRest_49 : decode cX6_comesToRest 49 = .ok (.iconst 0, 1) := by decide +kernel
theorem dX6_comesToRest_50 : decode cX6_comesToRest 50 = .ok (.ireturn, 1) := by decide +kernel
theorem dX6_boundGaps_0 : decode cX6_boundGaps 0 = .ok (.iconst 0, 1) := by decide +kernel
theorem dX6_boundGaps_1 : decode cX6_boundGaps 1 = .ok (.istore_n 2, 1) := by decide +kernel
theorem dX6_boundGaps_2 : decode cX6_boundGaps 2 = .ok (.iload_n 2, 1) := by decide +kernel
theorem dX6_boundGaps_3 : decode cX6_boundGaps 3 = .ok (.aload_n 0, 1) := by decide +kernel
theorem dX6_boundGaps_4 : decode cX6_boundGaps 4 = .ok (.getfield 103, 3) := by decide +kernel
theorem dX6_boundGaps_7 : decode cX6_boundGaps 7 = .ok (.if_icmp .ge 63, 3) := by decide +kernel
theorem dX6_boundGaps_10 : decode cX6_boundGaps 10 = .ok (.iload_n 2, 1) := by decide +kernel
theorem dX6_boundGaps_11 : decode cX6_boundGaps 11 = .ok (.bipush 20, 2) := by decide +kernel
theorem dX6_boundGaps_13 : decode cX6_boundGaps 13 = .ok (.if_icmp .ge 57, 3) := by decide +kernel
theorem dX6_boundGaps_16 : decode cX6_boundGaps 16 = .ok (.aload_n 0, 1) := by decide +kernel
theorem dX6_boundGaps_17 : decode cX6_boundGaps 17 = .ok (.iload_n 2, 1) := by decide +kernel
theorem dX6_boundGaps_18 : decode cX6_boundGaps 18 = .ok (.invokevirtual 134, 3) := by decide +kernel
theorem dX6_boundGaps_21 : decode cX6_boundGaps 21 = .ok (.aload_n 0, 1) := by decide +kernel
theorem dX6_boundGaps_22 : decode cX6_boundGaps 22 = .ok (.iload_n 1, 1) := by decide +kernel
theorem dX6_boundGaps_23 : decode cX6_boundGaps 23 = .ok (.invokevirtual 124, 3) := by decide +kernel
theorem dX6_boundGaps_26 : decode cX6_boundGaps 26 = .ok (.pop, 1) := by decide +kernel
theorem dX6_boundGaps_27 : decode cX6_boundGaps 27 = .ok (.aload_n 0, 1) := by decide +kernel
theorem dX6_boundGaps_28 : decode cX6_boundGaps 28 = .ok (.getfield 36, 3) := by decide +kernel
theorem dX6_boundGaps_31 : decode cX6_boundGaps 31 = .ok (.iload_n 2, 1) := by decide +kernel
theorem dX6_boundGaps_32 : decode cX6_boundGaps 32 = .ok (.aload_n 0, 1) := by decide +kernel
theorem dX6_boundGaps_33 : decode cX6_boundGaps 33 = .ok (.getfield 30, 3) := by decide +kernel
theorem dX6_boundGaps_36 : decode cX6_boundGaps 36 = .ok (.iload_n 2, 1) := by decide +kernel
theorem dX6_boundGaps_37 : decode cX6_boundGaps 37 = .ok (.iconst 1, 1) := by decide +kernel
theorem dX6_boundGaps_38 : decode cX6_boundGaps 38 = .ok (.iadd, 1) := by decide +kernel
theorem dX6_boundGaps_39 : decode cX6_boundGaps 39 = .ok (.invokestatic 51, 3) := by decide +kernel
theorem dX6_boundGaps_42 : decode cX6_boundGaps 42 = .ok (.iastore, 1) := by decide +kernel
theorem dX6_boundGaps_43 : decode cX6_boundGaps 43 = .ok (.iload_n 2, 1) := by decide +kernel
theorem dX6_boundGaps_44 : decode cX6_boundGaps 44 = .ok (.ifCond .le 20, 3) := by decide +kernel
theorem dX6_boundGaps_47 : decode cX6_boundGaps 47 = .ok (.aload_n 0, 1) := by decide +kernel
theorem dX6_boundGaps_48 : decode cX6_boundGaps 48 = .ok (.getfield 33, 3) := by decide +kernel
theorem dX6_boundGaps_51 : decode cX6_boundGaps 51 = .ok (.iload_n 2, 1) := by decide +kernel
theorem dX6_boundGaps_52 : decode cX6_boundGaps 52 = .ok (.iconst 1, 1) := by decide +kernel
theorem dX6_boundGaps_53 : decode cX6_boundGaps 53 = .ok (.isub, 1) := by decide +kernel
theorem dX6_boundGaps_54 : decode cX6_boundGaps 54 = .ok (.aload_n 0, 1) := by decide +kernel
theorem dX6_boundGaps_55 : decode cX6_boundGaps 55 = .ok (.getfield 30, 3) := by decide +kernel
theorem dX6_boundGaps_58 : decode cX6_boundGaps 58 = .ok (.iload_n 2, 1) := by decide +kernel
theorem dX6_boundGaps_59 : decode cX6_boundGaps 59 = .ok (.iconst 1, 1) := by decide +kernel
theorem dX6_boundGaps_60 : decode cX6_boundGaps 60 = .ok (.isub, 1) := by decide +kernel
theorem dX6_boundGaps_61 : decode cX6_boundGaps 61 = .ok (.iaload, 1) := by decide +kernel
theorem dX6_boundGaps_62 : decode cX6_boundGaps 62 = .ok (.ineg, 1) := by decide +kernel
theorem dX6_boundGaps_63 : decode cX6_boundGaps 63 = .ok (.iastore, 1) := by decide +kernel
theorem dX6_boundGaps_64 : decode cX6_boundGaps 64 = .ok (.iinc 2 1, 3) := by decide +kernel
theorem dX6_boundGaps_67 : decode cX6_boundGaps 67 = .ok (.goto (-65), 3) := by decide +kernel
theorem dX6_boundGaps_70 : decode cX6_boundGaps 70 = .ok (.return_, 1) := by decide +kernel
theorem dX6_gather_0 : decode cX6_gather 0 = .ok (.aload_n 0, 1) := by decide +kernel
theorem dX6_gather_1 : decode cX6_gather 1 = .ok (.iconst 0, 1) := by decide +kernel
theorem dX6_gather_2 : decode cX6_gather 2 = .ok (.putfield 47, 3) := by decide +kernel
theorem dX6_gather_5 : decode cX6_gather 5 = .ok (.aload_n 0, 1) := by decide +kernel
theorem dX6_gather_6 : decode cX6_gather 6 = .ok (.getfield 21, 3) := by decide +kernel
theorem dX6_gather_9 : decode cX6_gather 9 = .ok (.iconst (-1), 1) := by decide +kernel
theorem dX6_gather_10 : decode cX6_gather 10 = .ok (.invokestatic 66, 3) := by decide +kernel
theorem dX6_gather_13 : decode cX6_gather 13 = .ok (.aload_n 1, 1) := by decide +kernel
theorem dX6_gather_14 : decode cX6_gather 14 = .ok (.getfield 72, 3) := by decide +kernel
theorem dX6_gather_17 : decode cX6_gather 17 = .ok (.astore_n 3, 1) := by decide +kernel
theorem dX6_gather_18 : decode cX6_gather 18 = .ok (.aload_n 3, 1) := by decide +kernel
theorem dX6_gather_19 : decode cX6_gather 19 = .ok (.ifnull 45, 3) := by decide +kernel
theorem dX6_gather_22 : decode cX6_gather 22 = .ok (.aload_n 3, 1) := by decide +kernel
theorem dX6_gather_23 : decode cX6_gather 23 = .ok (.getfield 78, 3) := by decide +kernel
theorem dX6_gather_26 : decode cX6_gather 26 = .ok (.iconst 2, 1) := by decide +kernel
theorem dX6_gather_27 : decode cX6_gather 27 = .ok (.if_icmp .ne 29, 3) := by decide +kernel
theorem dX6_gather_30 : decode cX6_gather 30 = .ok (.aload_n 3, 1) := by decide +kernel
theorem dX6_gather_31 : decode cX6_gather 31 = .ok (.iload_n 2, 1) := by decide +kernel
theorem dX6_gather_32 : decode cX6_gather 32 = .ok (.invokevirtual 83, 3) := by decide +kernel
theorem dX6_gather_35 : decode cX6_gather 35 = .ok (.ifCond .eq 21, 3) := by decide +kernel
theorem dX6_gather_38 : decode cX6_gather 38 = .ok (.aload_n 0, 1) := by decide +kernel
theorem dX6_gather_39 : decode cX6_gather 39 = .ok (.aload_n 3, 1) := by decide +kernel
theorem dX6_gather_40 : decode cX6_gather 40 = .ok (.getfield 87, 3) := by decide +kernel
theorem dX6_gather_43 : decode cX6_gather 43 = .ok (.aload_n 3, 1) := by decide +kernel
theorem dX6_gather_44 : decode cX6_gather 44 = .ok (.getfield 90, 3) := by decide +kernel
theorem dX6_gather_47 : decode cX6_gather 47 = .ok (.iconst 1, 1) := by decide +kernel
theorem dX6_gather_48 : decode cX6_gather 48 = .ok (.iadd, 1) := by decide +kernel
theorem dX6_gather_49 : decode cX6_gather 49 = .ok (.aload_n 3, 1) := by decide +kernel
theorem dX6_gather_50 : decode cX6_gather 50 = .ok (.getfield 93, 3) := by decide +kernel
theorem dX6_gather_53 : decode cX6_gather 53 = .ok (.invokevirtual 96, 3) := by decide +kernel
theorem dX6_gather_56 : decode cX6_gather 56 = .ok (.aload_n 3, 1) := by decide +kernel
theorem dX6_gather_57 : decode cX6_gather 57 = .ok (.getfield 100, 3) := by decide +kernel
theorem dX6_gather_60 : decode cX6_gather 60 = .ok (.astore_n 3, 1) := by decide +kernel
theorem dX6_gather_61 : decode cX6_gather 61 = .ok (.goto (-43), 3) := by decide +kernel
theorem dX6_gather_64 : decode cX6_gather 64 = .ok (.return_, 1) := by decide +kernel
theorem dX6_hopelessBanks_0 : decode cX6_hopelessBanks 0 = .ok (.iconst 0, 1) := by decide +kernel
theorem dX6_hopelessBanks_1 : decode cX6_hopelessBanks 1 = .ok (.istore_n 1, 1) := by decide +kernel
theorem dX6_hopelessBanks_2 : decode cX6_hopelessBanks 2 = .ok (.iconst 0, 1) := by decide +kernel
theorem dX6_hopelessBanks_3 : decode cX6_hopelessBanks 3 = .ok (.istore_n 2, 1) := by decide +kernel
theorem dX6_hopelessBanks_4 : decode cX6_hopelessBanks 4 = .ok (.iload_n 2, 1) := by decide +kernel
theorem dX6_hopelessBanks_5 : decode cX6_hopelessBanks 5 = .ok (.aload_n 0, 1) := by decide +kernel
theorem dX6_hopelessBanks_6 : decode cX6_hopelessBanks 6 = .ok (.getfield 47, 3) := by decide +kernel
theorem dX6_hopelessBanks_9 : decode cX6_hopelessBanks 9 = .ok (.if_icmp .ge 82, 3) := by decide +kernel
theorem dX6_hopelessBanks_12 : decode cX6_hopelessBanks 12 = .ok (.iload_n 2, 1) := by decide +kernel
theorem dX6_hopelessBanks_13 : decode cX6_hopelessBanks 13 = .ok (.aload_n 0, 1) := by decide +kernel
theorem dX6_hopelessBanks_14 : decode cX6_hopelessBanks 14 = .ok (.getfield 18, 3) := by decide +kernel
theorem dX6_hopelessBanks_17 : decode cX6_hopelessBanks 17 = .ok (.arraylength, 1) := by decide +kernel
theorem dX6_hopelessBanks_18 : decode cX6_hopelessBanks 18 = .ok (.if_icmp .ge 73, 3) := by decide +kernel
theorem dX6_hopelessBanks_21 : decode cX6_hopelessBanks 21 = .ok (.iconst 0, 1) := by decide +kernel
theorem dX6_hopelessBanks_22 : decode cX6_hopelessBanks 22 = .ok (.istore_n 3, 1) := by decide +kernel
theorem dX6_hopelessBanks_23 : decode cX6_hopelessBanks 23 = .ok (.aload_n 0, 1) := by decide +kernel
theorem dX6_hopelessBanks_24 : decode cX6_hopelessBanks 24 = .ok (.getfield 9, 3) := by decide +kernel
theorem dX6_hopelessBanks_27 : decode cX6_hopelessBanks 27 = .ok (.iload_n 2, 1) := by decide +kernel
theorem dX6_hopelessBanks_28 : decode cX6_hopelessBanks 28 = .ok (.iaload, 1) := by decide +kernel
theorem dX6_hopelessBanks_29 : decode cX6_hopelessBanks 29 = .ok (.istore 4, 2) := by decide +kernel
theorem dX6_hopelessBanks_31 : decode cX6_hopelessBanks 31 = .ok (.iload 4, 2) := by decide +kernel
theorem dX6_hopelessBanks_33 : decode cX6_hopelessBanks 33 = .ok (.aload_n 0, 1) := by decide +kernel
theorem dX6_hopelessBanks_34 : decode cX6_hopelessBanks 34 = .ok (.getfield 15, 3) := by decide +kernel
theorem dX6_hopelessBanks_37 : decode cX6_hopelessBanks 37 = .ok (.iload_n 2, 1) := by decide +kernel
theorem dX6_hopelessBanks_38 : decode cX6_hopelessBanks 38 = .ok (.iaload, 1) := by decide +kernel
theorem dX6_hopelessBanks_39 : decode cX6_hopelessBanks 39 = .ok (.if_icmp .ge 21, 3) := by decide +kernel
theorem dX6_hopelessBanks_42 : decode cX6_hopelessBanks 42 = .ok (.iload_n 3, 1) := by decide +kernel
theorem dX6_hopelessBanks_43 : decode cX6_hopelessBanks 43 = .ok (.aload_n 0, 1) := by decide +kernel
theorem dX6_hopelessBanks_44 : decode cX6_hopelessBanks 44 = .ok (.getfield 27, 3) := by decide +kernel
theorem dX6_hopelessBanks_47 : decode cX6_hopelessBanks 47 = .ok (.iload 4, 2) := by decide +kernel
theorem dX6_hopelessBanks_49 : decode cX6_hopelessBanks 49 = .ok (.invokestatic 51, 3) := by decide +kernel
theorem dX6_hopelessBanks_52 : decode cX6_hopelessBanks 52 = .ok (.iadd, 1) := by decide +kernel
theorem dX6_hopelessBanks_53 : decode cX6_hopelessBanks 53 = .ok (.istore_n 3, 1) := by decide +kernel
theorem dX6_hopelessBanks_54 : decode cX6_hopelessBanks 54 = .ok (.iinc 4 1, 3) := by decide +kernel
theorem dX6_hopelessBanks_57 : decode cX6_hopelessBanks 57 = .ok (.goto (-26), 3) := by decide +kernel
theorem dX6_hopelessBanks_60 : decode cX6_hopelessBanks 60 = .ok (.aload_n 0, 1) := by decide +kernel
theorem dX6_hopelessBanks_61 : decode cX6_hopelessBanks 61 = .ok (.getfield 18, 3) := by decide +kernel
theorem dX6_hopelessBanks_64 : decode cX6_hopelessBanks 64 = .ok (.iload_n 2, 1) := by decide +kernel
theorem dX6_hopelessBanks_65 : decode cX6_hopelessBanks 65 = .ok (.iaload, 1) := by decide +kernel
theorem dX6_hopelessBanks_66 : decode cX6_hopelessBanks 66 = .ok (.ifCond .lt 13, 3) := by decide +kernel
theorem dX6_hopelessBanks_69 : decode cX6_hopelessBanks 69 = .ok (.aload_n 0, 1) := by decide +kernel
theorem dX6_hopelessBanks_70 : decode cX6_hopelessBanks 70 = .ok (.getfield 18, 3) := by decide +kernel
theorem dX6_hopelessBanks_73 : decode cX6_hopelessBanks 73 = .ok (.iload_n 2, 1) := by decide +kernel
theorem dX6_hopelessBanks_74 : decode cX6_hopelessBanks 74 = .ok (.iaload, 1) := by decide +kernel
theorem dX6_hopelessBanks_75 : decode cX6_hopelessBanks 75 = .ok (.iload_n 3, 1) := by decide +kernel
theorem dX6_hopelessBanks_76 : decode cX6_hopelessBanks 76 = .ok (.if_icmp .le 9, 3) := by decide +kernel
theorem dX6_hopelessBanks_79 : decode cX6_hopelessBanks 79 = .ok (.iload_n 1, 1) := by decide +kernel
theorem dX6_hopelessBanks_80 : decode cX6_hopelessBanks 80 = .ok (.iconst 1, 1) := by decide +kernel
theorem dX6_hopelessBanks_81 : decode cX6_hopelessBanks 81 = .ok (.iload_n 2, 1) := by decide +kernel
theorem dX6_hopelessBanks_82 : decode cX6_hopelessBanks 82 = .ok (.ishl, 1) := by decide +kernel
theorem dX6_hopelessBanks_83 : decode cX6_hopelessBanks 83 = .ok (.ior, 1) := by decide +kernel
theorem dX6_hopelessBanks_84 : decode cX6_hopelessBanks 84 = .ok (.istore_n 1, 1) := by decide +kernel
theorem dX6_hopelessBanks_85 : decode cX6_hopelessBanks 85 = .ok (.iinc 2 1, 3) := by decide +kernel
theorem dX6_hopelessBanks_88 : decode cX6_hopelessBanks 88 = .ok (.goto (-84), 3) := by decide +kernel
theorem dX6_hopelessBanks_91 : decode cX6_hopelessBanks 91 = .ok (.iload_n 1, 1) := by decide +kernel
theorem dX6_hopelessBanks_92 : decode cX6_hopelessBanks 92 = .ok (.ireturn, 1) := by decide +kernel
theorem dX6_init_0 : decode cX6_init 0 = .ok (.aload_n 0, 1) := by decide +kernel
theorem dX6_init_1 : decode cX6_init 1 = .ok (.invokespecial 3, 3) := by decide +kernel
theorem dX6_init_4 : decode cX6_init 4 = .ok (.aload_n 0, 1) := by decide +kernel
theorem dX6_init_5 : decode cX6_init 5 = .ok (.bipush 10, 2) := by decide +kernel
theorem dX6_init_7 : decode cX6_init 7 = .ok (.newarray .int, 2) := by decide +kernel
theorem dX6_init_9 : decode cX6_init 9 = .ok (.putfield 9, 3) := by decide +kernel
theorem dX6_init_12 : decode cX6_init 12 = .ok (.aload_n 0, 1) := by decide +kernel
theorem dX6_init_13 : decode cX6_init 13 = .ok (.bipush 10, 2) := by decide +kernel
theorem dX6_init_15 : decode cX6_init 15 = .ok (.newarray .int, 2) := by decide +kernel
theorem dX6_init_17 : decode cX6_init 17 = .ok (.putfield 15, 3) := by decide +kernel
theorem dX6_init_20 : decode cX6_init 20 = .ok (.aload_n 0, 1) := by decide +kernel
theorem dX6_init_21 : decode cX6_init 21 = .ok (.bipush 10, 2) := by decide +kernel
theorem dX6_init_23 : decode cX6_init 23 = .ok (.newarray .int, 2) := by decide +kernel
theorem dX6_init_25 : decode cX6_init 25 = .ok (.putfield 18, 3) := by decide +kernel
theorem dX6_init_28 : decode cX6_init 28 = .ok (.aload_n 0, 1) := by decide +kernel
theorem dX6_init_29 : decode cX6_init 29 = .ok (.bipush 105, 2) := by decide +kernel
theorem dX6_init_31 : decode cX6_init 31 = .ok (.newarray .int, 2) := by decide +kernel
theorem dX6_init_33 : decode cX6_init 33 = .ok (.putfield 21, 3) := by decide +kernel
theorem dX6_init_36 : decode cX6_init 36 = .ok (.aload_n 0, 1) := by decide +kernel
theorem dX6_init_37 : decode cX6_init 37 = .ok (.bipush 20, 2) := by decide +kernel
theorem dX6_init_39 : decode cX6_init 39 = .ok (.newarray .int, 2) := by decide +kernel
theorem dX6_init_41 : decode cX6_init 41 = .ok (.putfield 24, 3) := by decide +kernel
theorem dX6_init_44 : decode cX6_init 44 = .ok (.aload_n 0, 1) := by decide +kernel
theorem dX6_init_45 : decode cX6_init 45 = .ok (.bipush 20, 2) := by decide +kernel
theorem dX6_init_47 : decode cX6_init 47 = .ok (.newarray .int, 2) := by decide +kernel
theorem dX6_init_49 : decode cX6_init 49 = .ok (.putfield 27, 3) := by decide +kernel
theorem dX6_init_52 : decode cX6_init 52 = .ok (.aload_n 0, 1) := by decide +kernel
theorem dX6_init_53 : decode cX6_init 53 = .ok (.bipush 20, 2) := by decide +kernel
theorem dX6_init_55 : decode cX6_init 55 = .ok (.newarray .int, 2) := by decide +kernel
theorem dX6_init_57 : decode cX6_init 57 = .ok (.putfield 30, 3) := by decide +kernel
theorem dX6_init_60 : decode cX6_init 60 = .ok (.aload_n 0, 1) := by decide +kernel
theorem dX6_init_61 : decode cX6_init 61 = .ok (.bipush 20, 2) := by decide +kernel
theorem dX6_init_63 : decode cX6_init 63 = .ok (.newarray .int, 2) := by decide +kernel
theorem dX6_init_65 : decode cX6_init 65 = .ok (.putfield 33, 3) := by decide +kernel
theorem dX6_init_68 : decode cX6_init 68 = .ok (.aload_n 0, 1) := by decide +kernel
theorem dX6_init_69 : decode cX6_init 69 = .ok (.bipush 20, 2) := by decide +kernel
theorem dX6_init_71 : decode cX6_init 71 = .ok (.newarray .int, 2) := by decide +kernel
theorem dX6_init_73 : decode cX6_init 73 = .ok (.putfield 36, 3) := by decide +kernel
theorem dX6_init_76 : decode cX6_init 76 = .ok (.return_, 1) := by decide +kernel
theorem dX6_leaveOut_0 : decode cX6_leaveOut 0 = .ok (.aload_n 0, 1) := by decide +kernel
theorem dX6_leaveOut_1 : decode cX6_leaveOut 1 = .ok (.invokevirtual 116, 3) := by decide +kernel
theorem dX6_leaveOut_4 : decode cX6_leaveOut 4 = .ok (.istore_n 1, 1) := by decide +kernel
theorem dX6_leaveOut_5 : decode cX6_leaveOut 5 = .ok (.iload_n 1, 1) := by decide +kernel
theorem dX6_leaveOut_6 : decode cX6_leaveOut 6 = .ok (.invokestatic 119, 3) := by decide +kernel
theorem dX6_leaveOut_9 : decode cX6_leaveOut 9 = .ok (.istore_n 2, 1) := by decide +kernel
theorem dX6_leaveOut_10 : decode cX6_leaveOut 10 = .ok (.iload_n 2, 1) := by decide +kernel
theorem dX6_leaveOut_11 : decode cX6_leaveOut 11 = .ok (.iconst 3, 1) := by decide +kernel
theorem dX6_leaveOut_12 : decode cX6_leaveOut 12 = .ok (.if_icmp .gt 61, 3) := by decide +kernel
theorem dX6_leaveOut_15 : decode cX6_leaveOut 15 = .ok (.iconst 0, 1) := by decide +kernel
theorem dX6_leaveOut_16 : decode cX6_leaveOut 16 = .ok (.istore_n 3, 1) := by decide +kernel
theorem dX6_leaveOut_17 : decode cX6_leaveOut 17 = .ok (.iload_n 3, 1) := by decide +kernel
theorem dX6_leaveOut_18 : decode cX6_leaveOut 18 = .ok (.iconst 1, 1) := by decide +kernel
theorem dX6_leaveOut_19 : decode cX6_leaveOut 19 = .ok (.aload_n 0, 1) := by decide +kernel
theorem dX6_leaveOut_20 : decode cX6_leaveOut 20 = .ok (.getfield 47, 3) := by decide +kernel
theorem dX6_leaveOut_23 : decode cX6_leaveOut 23 = .ok (.ishl, 1) := by decide +kernel
theorem dX6_leaveOut_24 : decode cX6_leaveOut 24 = .ok (.if_icmp .ge 43, 3) := by decide +kernel
theorem dX6_leaveOut_27 : decode cX6_leaveOut 27 = .ok (.iload_n 1, 1) := by decide +kernel
theorem dX6_leaveOut_28 : decode cX6_leaveOut 28 = .ok (.iload_n 3, 1) := by decide +kernel
theorem dX6_leaveOut_29 : decode cX6_leaveOut 29 = .ok (.iconst (-1), 1) := by decide +kernel
theorem dX6_leaveOut_30 : decode cX6_leaveOut 30 = .ok (.ixor, 1) := by decide +kernel
theorem dX6_leaveOut_31 : decode cX6_leaveOut 31 = .ok (.iand, 1) := by decide +kernel
theorem dX6_leaveOut_32 : decode cX6_leaveOut 32 = .ok (.ifCond .ne 29, 3) := by decide +kernel
theorem dX6_leaveOut_35 : decode cX6_leaveOut 35 = .ok (.iload_n 3, 1) := by decide +kernel
theorem dX6_leaveOut_36 : decode cX6_leaveOut 36 = .ok (.invokestatic 119, 3) := by decide +kernel
theorem dX6_leaveOut_39 : decode cX6_leaveOut 39 = .ok (.iload_n 2, 1) := by decide +kernel
theorem dX6_leaveOut_40 : decode cX6_leaveOut 40 = .ok (.if_icmp .ne 21, 3) := by decide +kernel
theorem dX6_leaveOut_43 : decode cX6_leaveOut 43 = .ok (.aload_n 0, 1) := by decide +kernel
theorem dX6_leaveOut_44 : decode cX6_leaveOut 44 = .ok (.getfield 30, 3) := by decide +kernel
theorem dX6_leaveOut_47 : decode cX6_leaveOut 47 = .ok (.iconst 0, 1) := by decide +kernel
theorem dX6_leaveOut_48 : decode cX6_leaveOut 48 = .ok (.invokestatic 66, 3) := by decide +kernel
theorem dX6_leaveOut_51 : decode cX6_leaveOut 51 = .ok (.aload_n 0, 1) := by decide +kernel
theorem dX6_leaveOut_52 : decode cX6_leaveOut 52 = .ok (.iload_n 3, 1) := by decide +kernel
theorem dX6_leaveOut_53 : decode cX6_leaveOut 53 = .ok (.invokevirtual 124, 3) := by decide +kernel
theorem dX6_leaveOut_56 : decode cX6_leaveOut 56 = .ok (.ifCond .eq 5, 3) := by decide +kernel
theorem dX6_leaveOut_59 : decode cX6_leaveOut 59 = .ok (.iload_n 3, 1) := by decide +kernel
theorem dX6_leaveOut_60 : decode cX6_leaveOut 60 = .ok (.ireturn, 1) := by decide +kernel
theorem dX6_leaveOut_61 : decode cX6_leaveOut 61 = .ok (.iinc 3 1, 3) := by decide +kernel
theorem dX6_leaveOut_64 : decode cX6_leaveOut 64 = .ok (.goto (-47), 3) := by decide +kernel
theorem dX6_leaveOut_67 : decode cX6_leaveOut 67 = .ok (.iinc 2 1, 3) := by decide +kernel
theorem dX6_leaveOut_70 : decode cX6_leaveOut 70 = .ok (.goto (-60), 3) := by decide +kernel
theorem dX6_leaveOut_73 : decode cX6_leaveOut 73 = .ok (.iconst (-1), 1) := by decide +kernel
theorem dX6_leaveOut_74 : decode cX6_leaveOut 74 = .ok (.ireturn, 1) := by decide +kernel
theorem dX7_totalPaid_0 : decode cX7_totalPaid 0 = .ok (.iconst 0, 1) := by decide +kernel
theorem dX7_totalPaid_1 : decode cX7_totalPaid 1 = .ok (.istore_n 2, 1) := by decide +kernel
theorem dX7_totalPaid_2 : decode cX7_totalPaid 2 = .ok (.iconst 0, 1) := by decide +kernel
theorem dX7_totalPaid_3 : decode cX7_totalPaid 3 = .ok (.istore_n 3, 1) := by decide +kernel
theorem dX7_totalPaid_4 : decode cX7_totalPaid 4 = .ok (.iload_n 3, 1) := by decide +kernel
theorem dX7_totalPaid_5 : decode cX7_totalPaid 5 = .ok (.iconst 5, 1) := by decide +kernel
theorem dX7_totalPaid_6 : decode cX7_totalPaid 6 = .ok (.if_icmp .ge 25, 3) := by decide +kernel
theorem dX7_totalPaid_9 : decode cX7_totalPaid 9 = .ok (.iload_n 2, 1) := by decide +kernel
theorem dX7_totalPaid_10 : decode cX7_totalPaid 10 = .ok (.aload_n 0, 1) := by decide +kernel
theorem dX7_totalPaid_11 : decode cX7_totalPaid 11 = .ok (.getfield 9, 3) := by decide +kernel
theorem dX7_totalPaid_14 : decode cX7_totalPaid 14 = .ok (.iload_n 3, 1) := by decide +kernel
theorem dX7_totalPaid_15 : decode cX7_totalPaid 15 = .ok (.bipush 104, 2) := by decide +kernel
theorem dX7_totalPaid_17 : decode cX7_totalPaid 17 = .ok (.imul, 1) := by decide +kernel
theorem dX7_totalPaid_18 : decode cX7_totalPaid 18 = .ok (.iload_n 1, 1) := by decide +kernel
theorem dX7_totalPaid_19 : decode cX7_totalPaid 19 = .ok (.iadd, 1) := by decide +kernel
theorem dX7_totalPaid_20 : decode cX7_totalPaid 20 = .ok (.invokestatic 95, 3) := by decide +kernel
theorem dX7_totalPaid_23 : decode cX7_totalPaid 23 = .ok (.iadd, 1) := by decide +kernel
theorem dX7_totalPaid_24 : decode cX7_totalPaid 24 = .ok (.istore_n 2, 1) := by decide +kernel
theorem dX7_totalPaid_25 : decode cX7_totalPaid 25 = .ok (.iinc 3 1, 3) := by decide +kernel
theorem dX7_totalPaid_28 : decode cX7_totalPaid 28 = .ok (.goto (-24), 3) := by decide +kernel
theorem dX7_totalPaid_31 : decode cX7_totalPaid 31 = .ok (.iload_n 2, 1) := by decide +kernel
theorem dX7_totalPaid_32 : decode cX7_totalPaid 32 = .ok (.ireturn, 1) := by decide +kernel
theorem dX6_setPosts_0 : decode cX6_setPosts 0 = .ok (.aload_n 0, 1) := by decide +kernel
theorem dX6_setPosts_1 : decode cX6_setPosts 1 = .ok (.iconst 0, 1) := by decide +kernel
theorem dX6_setPosts_2 : decode cX6_setPosts 2 = .ok (.putfield 103, 3) := by decide +kernel
theorem dX6_setPosts_5 : decode cX6_setPosts 5 = .ok (.aload_n 0, 1) := by decide +kernel
theorem dX6_setPosts_6 : decode cX6_setPosts 6 = .ok (.iconst 0, 1) := by decide +kernel
theorem dX6_setPosts_7 : decode cX6_setPosts 7 = .ok (.putfield 106, 3) := by decide +kernel
theorem dX6_setPosts_10 : decode cX6_setPosts 10 = .ok (.iconst 0, 1) := by decide +kernel
theorem dX6_setPosts_11 : decode cX6_setPosts 11 = .ok (.istore_n 2, 1) := by decide +kernel
theorem dX6_setPosts_12 : decode cX6_setPosts 12 = .ok (.aload_n 0, 1) := by decide +kernel
theorem dX6_setPosts_13 : decode cX6_setPosts 13 = .ok (.getfield 27, 3) := by decide +kernel
theorem dX6_setPosts_16 : decode cX6_setPosts 16 = .ok (.iconst 0, 1) := by decide +kernel
theorem dX6_setPosts_17 : decode cX6_setPosts 17 = .ok (.invokestatic 66, 3) := by decide +kernel
theorem dX6_setPosts_20 : decode cX6_setPosts 20 = .ok (.iconst 0, 1) := by decide +kernel
theorem dX6_setPosts_21 : decode cX6_setPosts 21 = .ok (.istore_n 3, 1) := by decide +kernel
theorem dX6_setPosts_22 : decode cX6_setPosts 22 = .ok (.iload_n 3, 1) := by decide +kernel
theorem dX6_setPosts_23 : decode cX6_setPosts 23 = .ok (.aload_n 0, 1) := by decide +kernel
theorem dX6_setPosts_24 : decode cX6_setPosts 24 = .ok (.getfield 21, 3) := by decide +kernel
theorem dX6_setPosts_27 : decode cX6_setPosts 27 = .ok (.arraylength, 1) := by decide +kernel
theorem dX6_setPosts_28 : decode cX6_setPosts 28 = .ok (.if_icmp .ge 139, 3) := by decide +kernel
theorem dX6_setPosts_31 : decode cX6_setPosts 31 = .ok (.aload_n 0, 1) := by decide +kernel
theorem dX6_setPosts_32 : decode cX6_setPosts 32 = .ok (.getfield 21, 3) := by decide +kernel
theorem dX6_setPosts_35 : decode cX6_setPosts 35 = .ok (.iload_n 3, 1) := by decide +kernel
theorem dX6_setPosts_36 : decode cX6_setPosts 36 = .ok (.iaload, 1) := by decide +kernel
theorem dX6_setPosts_37 : decode cX6_setPosts 37 = .ok (.iconst (-1), 1) := by decide +kernel
theorem dX6_setPosts_38 : decode cX6_setPosts 38 = .ok (.if_icmp .eq 49, 3) := by decide +kernel
theorem dX6_setPosts_41 : decode cX6_setPosts 41 = .ok (.aload_n 0, 1) := by decide +kernel
theorem dX6_setPosts_42 : decode cX6_setPosts 42 = .ok (.getfield 103, 3) := by decide +kernel
theorem dX6_setPosts_45 : decode cX6_setPosts 45 = .ok (.ifCond .lt 42, 3) := by decide +kernel
theorem dX6_setPosts_48 : decode cX6_setPosts 48 = .ok (.aload_n 0, 1) := by decide +kernel
theorem dX6_setPosts_49 : decode cX6_setPosts 49 = .ok (.getfield 103, 3) := by decide +kernel
theorem dX6_setPosts_52 : decode cX6_setPosts 52 = .ok (.bipush 20, 2) := by decide +kernel
theorem dX6_setPosts_54 : decode cX6_setPosts 54 = .ok (.if_icmp .ge 33, 3) := by decide +kernel
theorem dX6_setPosts_57 : decode cX6_setPosts 57 = .ok (.aload_n 0, 1) := by decide +kernel
theorem dX6_setPosts_58 : decode cX6_setPosts 58 = .ok (.getfield 24, 3) := by decide +kernel
theorem dX6_setPosts_61 : decode cX6_setPosts 61 = .ok (.aload_n 0, 1) := by decide +kernel
theorem dX6_setPosts_62 : decode cX6_setPosts 62 = .ok (.getfield 103, 3) := by decide +kernel
theorem dX6_setPosts_65 : decode cX6_setPosts 65 = .ok (.iload_n 2, 1) := by decide +kernel
theorem dX6_setPosts_66 : decode cX6_setPosts 66 = .ok (.iastore, 1) := by decide +kernel
theorem dX6_setPosts_67 : decode cX6_setPosts 67 = .ok (.aload_n 0, 1) := by decide +kernel
theorem dX6_setPosts_68 : decode cX6_setPosts 68 = .ok (.getfield 21, 3) := by decide +kernel
theorem dX6_setPosts_71 : decode cX6_setPosts 71 = .ok (.iload_n 3, 1) := by decide +kernel
theorem dX6_setPosts_72 : decode cX6_setPosts 72 = .ok (.aload_n 0, 1) := by decide +kernel
theorem dX6_setPosts_73 : decode cX6_setPosts 73 = .ok (.getfield 103, 3) := by decide +kernel
theorem dX6_setPosts_76 : decode cX6_setPosts 76 = .ok (.iastore, 1) := by decide +kernel
theorem dX6_setPosts_77 : decode cX6_setPosts 77 = .ok (.aload_n 0, 1) := by decide +kernel
theorem dX6_setPosts_78 : decode cX6_setPosts 78 = .ok (.dup, 1) := by decide +kernel
theorem dX6_setPosts_79 : decode cX6_setPosts 79 = .ok (.getfield 103, 3) := by decide +kernel
theorem dX6_setPosts_82 : decode cX6_setPosts 82 = .ok (.iconst 1, 1) := by decide +kernel
theorem dX6_setPosts_83 : decode cX6_setPosts 83 = .ok (.iadd, 1) := by decide +kernel
theorem dX6_setPosts_84 : decode cX6_setPosts 84 = .ok (.putfield 103, 3) := by decide +kernel
theorem dX6_setPosts_87 : decode cX6_setPosts 87 = .ok (.aload_n 0, 1) := by decide +kernel
theorem dX6_setPosts_88 : decode cX6_setPosts 88 = .ok (.getfield 103, 3) := by decide +kernel
theorem dX6_setPosts_91 : decode cX6_setPosts 91 = .ok (.ifCond .le 52, 3) := by decide +kernel
theorem dX6_setPosts_94 : decode cX6_setPosts 94 = .ok (.aload_n 0, 1) := by decide +kernel
theorem dX6_setPosts_95 : decode cX6_setPosts 95 = .ok (.getfield 103, 3) := by decide +kernel
theorem dX6_setPosts_98 : decode cX6_setPosts 98 = .ok (.bipush 20, 2) := by decide +kernel
theorem dX6_setPosts_100 : decode cX6_setPosts 100 = .ok (.if_icmp .gt 43, 3) := by decide +kernel
theorem dX6_setPosts_103 : decode cX6_setPosts 103 = .ok (.aload_n 1, 1) := by decide +kernel
theorem dX6_setPosts_104 : decode cX6_setPosts 104 = .ok (.getfield 109, 3) := by decide +kernel
theorem dX6_setPosts_107 : decode cX6_setPosts 107 = .ok (.iload_n 3, 1) := by decide +kernel
theorem dX6_setPosts_108 : decode cX6_setPosts 108 = .ok (.invokestatic 51, 3) := by decide +kernel
theorem dX6_setPosts_111 : decode cX6_setPosts 111 = .ok (.ifCond .eq 32, 3) := by decide +kernel
theorem dX6_setPosts_114 : decode cX6_setPosts 114 = .ok (.aload_n 0, 1) := by decide +kernel
theorem dX6_setPosts_115 : decode cX6_setPosts 115 = .ok (.getfield 27, 3) := by decide +kernel
theorem dX6_setPosts_118 : decode cX6_setPosts 118 = .ok (.aload_n 0, 1) := by decide +kernel
theorem dX6_setPosts_119 : decode cX6_setPosts 119 = .ok (.getfield 103, 3) := by decide +kernel
theorem dX6_setPosts_122 : decode cX6_setPosts 122 = .ok (.iconst 1, 1) := by decide +kernel
theorem dX6_setPosts_123 : decode cX6_setPosts 123 = .ok (.isub, 1) := by decide +kernel
theorem dX6_setPosts_124 : decode cX6_setPosts 124 = .ok (.dup2, 1) := by decide +kernel
theorem dX6_setPosts_125 : decode cX6_setPosts 125 = .ok (.iaload, 1) := by decide +kernel
theorem dX6_setPosts_126 : decode cX6_setPosts 126 = .ok (.sipush 9999, 3) := by decide +kernel
theorem dX6_setPosts_129 : decode cX6_setPosts 129 = .ok (.iadd, 1) := by decide +kernel
theorem dX6_setPosts_130 : decode cX6_setPosts 130 = .ok (.iastore, 1) := by decide +kernel
theorem dX6_setPosts_131 : decode cX6_setPosts 131 = .ok (.aload_n 0, 1) := by decide +kernel
theorem dX6_setPosts_132 : decode cX6_setPosts 132 = .ok (.dup, 1) := by decide +kernel
theorem dX6_setPosts_133 : decode cX6_setPosts 133 = .ok (.getfield 106, 3) := by decide +kernel
theorem dX6_setPosts_136 : decode cX6_setPosts 136 = .ok (.sipush 9999, 3) := by decide +kernel
theorem dX6_setPosts_139 : decode cX6_setPosts 139 = .ok (.iadd, 1) := by decide +kernel
theorem dX6_setPosts_140 : decode cX6_setPosts 140 = .ok (.putfield 106, 3) := by decide +kernel
theorem dX6_setPosts_143 : decode cX6_setPosts 143 = .ok (.iload_n 2, 1) := by decide +kernel
theorem dX6_setPosts_144 : decode cX6_setPosts 144 = .ok (.iload_n 3, 1) := by decide +kernel
theorem dX6_setPosts_145 : decode cX6_setPosts 145 = .ok (.bipush 104, 2) := by decide +kernel
theorem dX6_setPosts_147 : decode cX6_setPosts 147 = .ok (.if_icmp .ge 11, 3) := by decide +kernel
theorem dX6_setPosts_150 : decode cX6_setPosts 150 = .ok (.aload_n 1, 1) := by decide +kernel
theorem dX6_setPosts_151 : decode cX6_setPosts 151 = .ok (.iload_n 3, 1) := by decide +kernel
theorem dX6_setPosts_152 : decode cX6_setPosts 152 = .ok (.invokevirtual 112, 3) := by decide +kernel
theorem dX6_setPosts_155 : decode cX6_setPosts 155 = .ok (.goto 4, 3) := by decide +kernel
theorem dX6_setPosts_158 : decode cX6_setPosts 158 = .ok (.iconst 0, 1) := by decide +kernel
theorem dX6_setPosts_159 : decode cX6_setPosts 159 = .ok (.iadd, 1) := by decide +kernel
theorem dX6_setPosts_160 : decode cX6_setPosts 160 = .ok (.istore_n 2, 1) := by decide +kernel
theorem dX6_setPosts_161 : decode cX6_setPosts 161 = .ok (.iinc 3 1, 3) := by decide +kernel
theorem dX6_setPosts_164 : decode cX6_setPosts 164 = .ok (.goto (-142), 3) := by decide +kernel
theorem dX6_setPosts_167 : decode cX6_setPosts 167 = .ok (.return_, 1) := by decide +kernel
theorem dX6_writeSpans_0 : decode cX6_writeSpans 0 = .ok (.iconst (-1), 1) := by decide +kernel
theorem dX6_writeSpans_1 : decode cX6_writeSpans 1 = .ok (.istore_n 2, 1) := by decide +kernel
theorem dX6_writeSpans_2 : decode cX6_writeSpans 2 = .ok (.iconst 0, 1) := by decide +kernel
theorem dX6_writeSpans_3 : decode cX6_writeSpans 3 = .ok (.istore_n 3, 1) := by decide +kernel
theorem dX6_writeSpans_4 : decode cX6_writeSpans 4 = .ok (.iload_n 3, 1) := by decide +kernel
theorem dX6_writeSpans_5 : decode cX6_writeSpans 5 = .ok (.bipush 104, 2) := by decide +kernel
theorem dX6_writeSpans_7 : decode cX6_writeSpans 7 = .ok (.if_icmp .ge 137, 3) := by decide +kernel
theorem dX6_writeSpans_10 : decode cX6_writeSpans 10 = .ok (.aload_n 0, 1) := by decide +kernel
theorem dX6_writeSpans_11 : decode cX6_writeSpans 11 = .ok (.getfield 21, 3) := by decide +kernel
theorem dX6_writeSpans_14 : decode cX6_writeSpans 14 = .ok (.iload_n 3, 1) := by decide +kernel
theorem dX6_writeSpans_15 : decode cX6_writeSpans 15 = .ok (.invokestatic 51, 3) := by decide +kernel
theorem dX6_writeSpans_18 : decode cX6_writeSpans 18 = .ok (.iconst (-1), 1) := by decide +kernel
theorem dX6_writeSpans_19 : decode cX6_writeSpans 19 = .ok (.if_icmp .eq 12, 3) := by decide +kernel
theorem dX6_writeSpans_22 : decode cX6_writeSpans 22 = .ok (.aload_n 0, 1) := by decide +kernel
theorem dX6_writeSpans_23 : decode cX6_writeSpans 23 = .ok (.getfield 21, 3) := by decide +kernel
theorem dX6_writeSpans_26 : decode cX6_writeSpans 26 = .ok (.iload_n 3, 1) := by decide +kernel
theorem dX6_writeSpans_27 : decode cX6_writeSpans 27 = .ok (.invokestatic 51, 3) := by decide +kernel
theorem dX6_writeSpans_30 : decode cX6_writeSpans 30 = .ok (.istore_n 2, 1) := by decide +kernel
theorem dX6_writeSpans_31 : decode cX6_writeSpans 31 = .ok (.aload_n 1, 1) := by decide +kernel
theorem dX6_writeSpans_32 : decode cX6_writeSpans 32 = .ok (.getfield 109, 3) := by decide +kernel
theorem dX6_writeSpans_35 : decode cX6_writeSpans 35 = .ok (.iload_n 3, 1) := by decide +kernel
theorem dX6_writeSpans_36 : decode cX6_writeSpans 36 = .ok (.invokestatic 51, 3) := by decide +kernel
theorem dX6_writeSpans_39 : decode cX6_writeSpans 39 = .ok (.ifCond .eq 99, 3) := by decide +kernel
theorem dX6_writeSpans_42 : decode cX6_writeSpans 42 = .ok (.iload_n 2, 1) := by decide +kernel
theorem dX6_writeSpans_43 : decode cX6_writeSpans 43 = .ok (.ifCond .lt 17, 3) := by decide +kernel
theorem dX6_writeSpans_46 : decode cX6_writeSpans 46 = .ok (.iload_n 2, 1) := by decide +kernel
theorem dX6_writeSpans_47 : decode cX6_writeSpans 47 = .ok (.aload_n 0, 1) := by decide +kernel
theorem dX6_writeSpans_48 : decode cX6_writeSpans 48 = .ok (.getfield 103, 3) := by decide +kernel
theorem dX6_writeSpans_51 : decode cX6_writeSpans 51 = .ok (.iconst 1, 1) := by decide +kernel
theorem dX6_writeSpans_52 : decode cX6_writeSpans 52 = .ok (.isub, 1) := by decide +kernel
theorem dX6_writeSpans_53 : decode cX6_writeSpans 53 = .ok (.if_icmp .ge 7, 3) := by decide +kernel
theorem dX6_writeSpans_56 : decode cX6_writeSpans 56 = .ok (.iconst 1, 1) := by decide +kernel
theorem dX6_writeSpans_57 : decode cX6_writeSpans 57 = .ok (.goto 4, 3) := by decide +kernel
theorem dX6_writeSpans_60 : decode cX6_writeSpans 60 = .ok (.iconst 0, 1) := by decide +kernel
theorem dX6_writeSpans_61 : decode cX6_writeSpans 61 = .ok (.istore 4, 2) := by decide +kernel
theorem dX6_writeSpans_63 : decode cX6_writeSpans 63 = .ok (.aload_n 0, 1) := by decide +kernel
theorem dX6_writeSpans_64 : decode cX6_writeSpans 64 = .ok (.getfield 27, 3) := by decide +kernel
theorem dX6_writeSpans_67 : decode cX6_writeSpans 67 = .ok (.iload_n 2, 1) := by decide +kernel
theorem dX6_writeSpans_68 : decode cX6_writeSpans 68 = .ok (.invokestatic 51, 3) := by decide +kernel
theorem dX6_writeSpans_71 : decode cX6_writeSpans 71 = .ok (.sipush 9999, 3) := by decide +kernel
theorem dX6_writeSpans_74 : decode cX6_writeSpans 74 = .ok (.isub, 1) := by decide +kernel
theorem dX6_writeSpans_75 : decode cX6_writeSpans 75 = .ok (.istore 5, 2) := by decide +kernel
theorem dX6_writeSpans_77 : decode cX6_writeSpans 77 = .ok (.aload_n 1, 1) := by decide +kernel
theorem dX6_writeSpans_78 : decode cX6_writeSpans 78 = .ok (.getfield 137, 3) := by decide +kernel
theorem dX6_writeSpans_81 : decode cX6_writeSpans 81 = .ok (.iload_n 3, 1) := by decide +kernel
theorem dX6_writeSpans_82 : decode cX6_writeSpans 82 = .ok (.iload 4, 2) := by decide +kernel
theorem dX6_writeSpans_84 : decode cX6_writeSpans 84 = .ok (.ifCond .eq 21, 3) := by decide +kernel
theorem dX6_writeSpans_87 : decode cX6_writeSpans 87 = .ok (.iconst 0, 1) := by decide +kernel
theorem dX6_writeSpans_88 : decode cX6_writeSpans 88 = .ok (.aload_n 0, 1) := by decide +kernel
theorem dX6_writeSpans_89 : decode cX6_writeSpans 89 = .ok (.getfield 33, 3) := by decide +kernel
theorem dX6_writeSpans_92 : decode cX6_writeSpans 92 = .ok (.iload_n 2, 1) := by decide +kernel
theorem dX6_writeSpans_93 : decode cX6_writeSpans 93 = .ok (.invokestatic 51, 3) := by decide +kernel
theorem dX6_writeSpans_96 : decode cX6_writeSpans 96 = .ok (.iload 5, 2) := by decide +kernel
theorem dX6_writeSpans_98 : decode cX6_writeSpans 98 = .ok (.isub, 1) := by decide +kernel
theorem dX6_writeSpans_99 : decode cX6_writeSpans 99 = .ok (.invokestatic 140, 3) := by decide +kernel
theorem dX6_writeSpans_102 : decode cX6_writeSpans 102 = .ok (.goto 4, 3) := by decide +kernel
theorem dX6_writeSpans_105 : decode cX6_writeSpans 105 = .ok (.iconst 0, 1) := by decide +kernel
theorem dX6_writeSpans_106 : decode cX6_writeSpans 106 = .ok (.iastore, 1) := by decide +kernel
theorem dX6_writeSpans_107 : decode cX6_writeSpans 107 = .ok (.aload_n 1, 1) := by decide +kernel
theorem dX6_writeSpans_108 : decode cX6_writeSpans 108 = .ok (.getfield 146, 3) := by decide +kernel
theorem dX6_writeSpans_111 : decode cX6_writeSpans 111 = .ok (.iload_n 3, 1) := by decide +kernel
theorem dX6_writeSpans_112 : decode cX6_writeSpans 112 = .ok (.iload 4, 2) := by decide +kernel
theorem dX6_writeSpans_114 : decode cX6_writeSpans 114 = .ok (.ifCond .eq 20, 3) := by decide +kernel
theorem dX6_writeSpans_117 : decode cX6_writeSpans 117 = .ok (.sipush 9999, 3) := by decide +kernel
theorem dX6_writeSpans_120 : decode cX6_writeSpans 120 = .ok (.aload_n 0, 1) := by decide +kernel
theorem dX6_writeSpans_121 : decode cX6_writeSpans 121 = .ok (.getfield 36, 3) := by decide +kernel
theorem dX6_writeSpans_124 : decode cX6_writeSpans 124 = .ok (.iload_n 2, 1) := by decide +kernel
theorem dX6_writeSpans_125 : decode cX6_writeSpans 125 = .ok (.invokestatic 51, 3) := by decide +kernel
theorem dX6_writeSpans_128 : decode cX6_writeSpans 128 = .ok (.invokestatic 149, 3) := by decide +kernel
theorem dX6_writeSpans_131 : decode cX6_writeSpans 131 = .ok (.goto 6, 3) := by decide +kernel
theorem dX6_writeSpans_134 : decode cX6_writeSpans 134 = .ok (.sipush 9999, 3) := by decide +kernel
theorem dX6_writeSpans_137 : decode cX6_writeSpans 137 = .ok (.iastore, 1) := by decide +kernel
theorem dX6_writeSpans_138 : decode cX6_writeSpans 138 = .ok (.iinc 3 1, 3) := by decide +kernel
theorem dX6_writeSpans_141 : decode cX6_writeSpans 141 = .ok (.goto (-137), 3) := by decide +kernel
theorem dX6_writeSpans_144 : decode cX6_writeSpans 144 = .ok (.return_, 1) := by decide +kernel
theorem dX6_spread_0 : decode cX6_spread 0 = .ok (.aload_n 0, 1) := by decide +kernel
theorem dX6_spread_1 : decode cX6_spread 1 = .ok (.aload_n 1, 1) := by decide +kernel
theorem dX6_spread_2 : decode cX6_spread 2 = .ok (.iload_n 2, 1) := by decide +kernel
theorem dX6_spread_3 : decode cX6_spread 3 = .ok (.invokevirtual 39, 3) := by decide +kernel
theorem dX6_spread_6 : decode cX6_spread 6 = .ok (.aload_n 0, 1) := by decide +kernel
theorem dX6_spread_7 : decode cX6_spread 7 = .ok (.aload_n 1, 1) := by decide +kernel
theorem dX6_spread_8 : decode cX6_spread 8 = .ok (.invokevirtual 43, 3) := by decide +kernel
theorem dX6_spread_11 : decode cX6_spread 11 = .ok (.iconst 0, 1) := by decide +kernel
theorem dX6_spread_12 : decode cX6_spread 12 = .ok (.istore_n 3, 1) := by decide +kernel
theorem dX6_spread_13 : decode cX6_spread 13 = .ok (.iload_n 3, 1) := by decide +kernel
theorem dX6_spread_14 : decode cX6_spread 14 = .ok (.aload_n 0, 1) := by decide +kernel
theorem dX6_spread_15 : decode cX6_spread 15 = .ok (.getfield 47, 3) := by decide +kernel
theorem dX6_spread_18 : decode cX6_spread 18 = .ok (.if_icmp .ge 92, 3) := by decide +kernel
theorem dX6_spread_21 : decode cX6_spread 21 = .ok (.iload_n 3, 1) := by decide +kernel
theorem dX6_spread_22 : decode cX6_spread 22 = .ok (.aload_n 0, 1) := by decide +kernel
theorem dX6_spread_23 : decode cX6_spread 23 = .ok (.getfield 18, 3) := by decide +kernel
theorem dX6_spread_26 : decode cX6_spread 26 = .ok (.arraylength, 1) := by decide +kernel
theorem dX6_spread_27 : decode cX6_spread 27 = .ok (.if_icmp .ge 83, 3) := by decide +kernel
theorem dX6_spread_30 : decode cX6_spread 30 = .ok (.aload_n 0, 1) := by decide +kernel
theorem dX6_spread_31 : decode cX6_spread 31 = .ok (.getfield 9, 3) := by decide +kernel
theorem dX6_spread_34 : decode cX6_spread 34 = .ok (.iload_n 3, 1) := by decide +kernel
theorem dX6_spread_35 : decode cX6_spread 35 = .ok (.aload_n 0, 1) := by decide +kernel
theorem dX6_spread_36 : decode cX6_spread 36 = .ok (.getfield 21, 3) := by decide +kernel
theorem dX6_spread_39 : decode cX6_spread 39 = .ok (.aload_n 0, 1) := by decide +kernel
theorem dX6_spread_40 : decode cX6_spread 40 = .ok (.getfield 9, 3) := by decide +kernel
theorem dX6_spread_43 : decode cX6_spread 43 = .ok (.iload_n 3, 1) := by decide +kernel
theorem dX6_spread_44 : decode cX6_spread 44 = .ok (.iaload, 1) := by decide +kernel
theorem dX6_spread_45 : decode cX6_spread 45 = .ok (.invokestatic 51, 3) := by decide +kernel
theorem dX6_spread_48 : decode cX6_spread 48 = .ok (.iastore, 1) := by decide +kernel
theorem dX6_spread_49 : decode cX6_spread 49 = .ok (.aload_n 0, 1) := by decide +kernel
theorem dX6_spread_50 : decode cX6_spread 50 = .ok (.getfield 15, 3) := by decide +kernel
theorem dX6_spread_53 : decode cX6_spread 53 = .ok (.iload_n 3, 1) := by decide +kernel
theorem dX6_spread_54 : decode cX6_spread 54 = .ok (.aload_n 0, 1) := by decide +kernel
theorem dX6_spread_55 : decode cX6_spread 55 = .ok (.getfield 21, 3) := by decide +kernel
theorem dX6_spread_58 : decode cX6_spread 58 = .ok (.aload_n 0, 1) := by decide +kernel
theorem dX6_spread_59 : decode cX6_spread 59 = .ok (.getfield 15, 3) := by decide +kernel
theorem dX6_spread_62 : decode cX6_spread 62 = .ok (.iload_n 3, 1) := by decide +kernel
theorem dX6_spread_63 : decode cX6_spread 63 = .ok (.iaload, 1) := by decide +kernel
theorem dX6_spread_64 : decode cX6_spread 64 = .ok (.invokestatic 51, 3) := by decide +kernel
theorem dX6_spread_67 : decode cX6_spread 67 = .ok (.iastore, 1) := by decide +kernel
theorem dX6_spread_68 : decode cX6_spread 68 = .ok (.aload_n 0, 1) := by decide +kernel
theorem dX6_spread_69 : decode cX6_spread 69 = .ok (.getfield 18, 3) := by decide +kernel
theorem dX6_spread_72 : decode cX6_spread 72 = .ok (.iload_n 3, 1) := by decide +kernel
theorem dX6_spread_73 : decode cX6_spread 73 = .ok (.dup2, 1) := by decide +kernel
theorem dX6_spread_74 : decode cX6_spread 74 = .ok (.iaload, 1) := by decide +kernel
theorem dX6_spread_75 : decode cX6_spread 75 = .ok (.aload_n 0, 1) := by decide +kernel
theorem dX6_spread_76 : decode cX6_spread 76 = .ok (.getfield 24, 3) := by decide +kernel
theorem dX6_spread_79 : decode cX6_spread 79 = .ok (.aload_n 0, 1) := by decide +kernel
theorem dX6_spread_80 : decode cX6_spread 80 = .ok (.getfield 15, 3) := by decide +kernel
theorem dX6_spread_83 : decode cX6_spread 83 = .ok (.iload_n 3, 1) := by decide +kernel
theorem dX6_spread_84 : decode cX6_spread 84 = .ok (.iaload, 1) := by decide +kernel
theorem dX6_spread_85 : decode cX6_spread 85 = .ok (.invokestatic 51, 3) := by decide +kernel
theorem dX6_spread_88 : decode cX6_spread 88 = .ok (.aload_n 0, 1) := by decide +kernel
theorem dX6_spread_89 : decode cX6_spread 89 = .ok (.getfield 24, 3) := by decide +kernel
theorem dX6_spread_92 : decode cX6_spread 92 = .ok (.aload_n 0, 1) := by decide +kernel
theorem dX6_spread_93 : decode cX6_spread 93 = .ok (.getfield 9, 3) := by decide +kernel
theorem dX6_spread_96 : decode cX6_spread 96 = .ok (.iload_n 3, 1) := by decide +kernel
theorem dX6_spread_97 : decode cX6_spread 97 = .ok (.iaload, 1) := by decide +kernel
theorem dX6_spread_98 : decode cX6_spread 98 = .ok (.invokestatic 51, 3) := by decide +kernel
theorem dX6_spread_101 : decode cX6_spread 101 = .ok (.isub, 1) := by decide +kernel
theorem dX6_spread_102 : decode cX6_spread 102 = .ok (.isub, 1) := by decide +kernel
theorem dX6_spread_103 : decode cX6_spread 103 = .ok (.iastore, 1) := by decide +kernel
theorem dX6_spread_104 : decode cX6_spread 104 = .ok (.iinc 3 1, 3) := by decide +kernel
theorem dX6_spread_107 : decode cX6_spread 107 = .ok (.goto (-94), 3) := by decide +kernel
theorem dX6_spread_110 : decode cX6_spread 110 = .ok (.aload_n 0, 1) := by decide +kernel
theorem dX6_spread_111 : decode cX6_spread 111 = .ok (.invokevirtual 55, 3) := by decide +kernel
theorem dX6_spread_114 : decode cX6_spread 114 = .ok (.istore_n 3, 1) := by decide +kernel
theorem dX6_spread_115 : decode cX6_spread 115 = .ok (.aload_n 0, 1) := by decide +kernel
theorem dX6_spread_116 : decode cX6_spread 116 = .ok (.iload_n 3, 1) := by decide +kernel
theorem dX6_spread_117 : decode cX6_spread 117 = .ok (.iconst (-1), 1) := by decide +kernel
theorem dX6_spread_118 : decode cX6_spread 118 = .ok (.if_icmp .ne 14, 3) := by decide +kernel
theorem dX6_spread_121 : decode cX6_spread 121 = .ok (.iconst 1, 1) := by decide +kernel
theorem dX6_spread_122 : decode cX6_spread 122 = .ok (.aload_n 0, 1) := by decide +kernel
theorem dX6_spread_123 : decode cX6_spread 123 = .ok (.getfield 47, 3) := by decide +kernel
theorem dX6_spread_126 : decode cX6_spread 126 = .ok (.ishl, 1) := by decide +kernel
theorem dX6_spread_127 : decode cX6_spread 127 = .ok (.iconst 1, 1) := by decide +kernel
theorem dX6_spread_128 : decode cX6_spread 128 = .ok (.isub, 1) := by decide +kernel
theorem dX6_spread_129 : decode cX6_spread 129 = .ok (.goto 4, 3) := by decide +kernel
theorem dX6_spread_132 : decode cX6_spread 132 = .ok (.iload_n 3, 1) := by decide +kernel
theorem dX6_spread_133 : decode cX6_spread 133 = .ok (.invokevirtual 59, 3) := by decide +kernel
theorem dX6_spread_136 : decode cX6_spread 136 = .ok (.aload_n 0, 1) := by decide +kernel
theorem dX6_spread_137 : decode cX6_spread 137 = .ok (.aload_n 1, 1) := by decide +kernel
theorem dX6_spread_138 : decode cX6_spread 138 = .ok (.invokevirtual 63, 3) := by decide +kernel
theorem dX6_spread_141 : decode cX6_spread 141 = .ok (.iload_n 3, 1) := by decide +kernel
theorem dX6_spread_142 : decode cX6_spread 142 = .ok (.ireturn, 1) := by decide +kernel
theorem dX7_forget_0 : decode cX7_forget 0 = .ok (.iload_n 1, 1) := by decide +kernel
theorem dX7_forget_1 : decode cX7_forget 1 = .ok (.istore_n 2, 1) := by decide +kernel
theorem dX7_forget_2 : decode cX7_forget 2 = .ok (.iload_n 2, 1) := by decide +kernel
theorem dX7_forget_3 : decode cX7_forget 3 = .ok (.ifCond .lt 25, 3) := by decide +kernel
theorem dX7_forget_6 : decode cX7_forget 6 = .ok (.iload_n 2, 1) := by decide +kernel
theorem dX7_forget_7 : decode cX7_forget 7 = .ok (.aload_n 0, 1) := by decide +kernel
theorem dX7_forget_8 : decode cX7_forget 8 = .ok (.getfield 9, 3) := by decide +kernel
theorem dX7_forget_11 : decode cX7_forget 11 = .ok (.arraylength, 1) := by decide +kernel
theorem dX7_forget_12 : decode cX7_forget 12 = .ok (.if_icmp .ge 16, 3) := by decide +kernel
theorem dX7_forget_15 : decode cX7_forget 15 = .ok (.aload_n 0, 1) := by decide +kernel
theorem dX7_forget_16 : decode cX7_forget 16 = .ok (.getfield 9, 3) := by decide +kernel
theorem dX7_forget_19 : decode cX7_forget 19 = .ok (.iload_n 2, 1) := by decide +kernel
theorem dX7_forget_20 : decode cX7_forget 20 = .ok (.iconst 0, 1) := by decide +kernel
theorem dX7_forget_21 : decode cX7_forget 21 = .ok (.iastore, 1) := by decide +kernel
theorem dX7_forget_22 : decode cX7_forget 22 = .ok (.iinc 2 104, 3) := by decide +kernel
theorem dX7_forget_25 : decode cX7_forget 25 = .ok (.goto (-23), 3) := by decide +kernel
theorem dX7_forget_28 : decode cX7_forget 28 = .ok (.return_, 1) := by decide +kernel
theorem dX7_init_0 : decode cX7_init 0 = .ok (.aload_n 0, 1) := by decide +kernel
theorem dX7_init_1 : decode cX7_init 1 = .ok (.invokespecial 3, 3) := by decide +kernel
theorem dX7_init_4 : decode cX7_init 4 = .ok (.aload_n 0, 1) := by decide +kernel
theorem dX7_init_5 : decode cX7_init 5 = .ok (.sipush 624, 3) := by decide +kernel
theorem dX7_init_8 : decode cX7_init 8 = .ok (.newarray .int, 2) := by decide +kernel
theorem dX7_init_10 : decode cX7_init 10 = .ok (.putfield 9, 3) := by decide +kernel
theorem dX7_init_13 : decode cX7_init 13 = .ok (.aload_n 0, 1) := by decide +kernel
theorem dX7_init_14 : decode cX7_init 14 = .ok (.bipush 104, 2) := by decide +kernel
theorem dX7_init_16 : decode cX7_init 16 = .ok (.newarray .int, 2) := by decide +kernel
theorem dX7_init_18 : decode cX7_init 18 = .ok (.putfield 15, 3) := by decide +kernel
theorem dX7_init_21 : decode cX7_init 21 = .ok (.aload_n 0, 1) := by decide +kernel
theorem dX7_init_22 : decode cX7_init 22 = .ok (.bipush 104, 2) := by decide +kernel
theorem dX7_init_24 : decode cX7_init 24 = .ok (.newarray .int, 2) := by decide +kernel
theorem dX7_init_26 : decode cX7_init 26 = .ok (.putfield 18, 3) := by decide +kernel
theorem dX7_init_29 : decode cX7_init 29 = .ok (.aload_n 0, 1) := by decide +kernel
theorem dX7_init_30 : decode cX7_init 30 = .ok (.bipush 104, 2) := by decide +kernel
theorem dX7_init_32 : decode cX7_init 32 = .ok (.newarray .int, 2) := by decide +kernel
theorem dX7_init_34 : decode cX7_init 34 = .ok (.putfield 21, 3) := by decide +kernel
theorem dX7_init_37 : decode cX7_init 37 = .ok (.aload_n 0, 1) := by decide +kernel
theorem dX7_init_38 : decode cX7_init 38 = .ok (.iload_n 1, 1) := by decide +kernel
theorem dX7_init_39 : decode cX7_init 39 = .ok (.putfield 24, 3) := by decide +kernel
theorem dX7_init_42 : decode cX7_init 42 = .ok (.aload_n 0, 1) := by decide +kernel
theorem dX7_init_43 : decode cX7_init 43 = .ok (.iload_n 2, 1) := by decide +kernel
theorem dX7_init_44 : decode cX7_init 44 = .ok (.ifCond .eq 7, 3) := by decide +kernel
theorem dX7_init_47 : decode cX7_init 47 = .ok (.iconst 1, 1) := by decide +kernel
theorem dX7_init_48 : decode cX7_init 48 = .ok (.goto 4, 3) := by decide +kernel
theorem dX7_init_51 : decode cX7_init 51 = .ok (.iconst 0, 1) := by decide +kernel
theorem dX7_init_52 : decode cX7_init 52 = .ok (.putfield 28, 3) := by decide +kernel
theorem dX7_init_55 : decode cX7_init 55 = .ok (.return_, 1) := by decide +kernel
theorem dX7_keep_0 : decode cX7_keep 0 = .ok (.aload_n 0, 1) := by decide +kernel
theorem dX7_keep_1 : decode cX7_keep 1 = .ok (.getfield 31, 3) := by decide +kernel
theorem dX7_keep_4 : decode cX7_keep 4 = .ok (.ifnonnull 11, 3) := by decide +kernel
theorem dX7_keep_7 : decode cX7_keep 7 = .ok (.aload_n 0, 1) := by decide +kernel
theorem dX7_keep_8 : decode cX7_keep 8 = .ok (.aload_n 1, 1) := by decide +kernel
theorem dX7_keep_9 : decode cX7_keep 9 = .ok (.putfield 35, 3) := by decide +kernel
theorem dX7_keep_12 : decode cX7_keep 12 = .ok (.goto 11, 3) := by decide +kernel
theorem dX7_keep_15 : decode cX7_keep 15 = .ok (.aload_n 0, 1) := by decide +kernel
theorem dX7_keep_16 : decode cX7_keep 16 = .ok (.getfield 31, 3) := by decide +kernel
theorem dX7_keep_19 : decode cX7_keep 19 = .ok (.aload_n 1, 1) := by decide +kernel
theorem dX7_keep_20 : decode cX7_keep 20 = .ok (.putfield 38, 3) := by decide +kernel
theorem dX7_keep_23 : decode cX7_keep 23 = .ok (.aload_n 0, 1) := by decide +kernel
theorem dX7_keep_24 : decode cX7_keep 24 = .ok (.aload_n 1, 1) := by decide +kernel
theorem dX7_keep_25 : decode cX7_keep 25 = .ok (.putfield 31, 3) := by decide +kernel
theorem dX7_keep_28 : decode cX7_keep 28 = .ok (.aload_n 0, 1) := by decide +kernel
theorem dX7_keep_29 : decode cX7_keep 29 = .ok (.iconst 0, 1) := by decide +kernel
theorem dX7_keep_30 : decode cX7_keep 30 = .ok (.putfield 43, 3) := by decide +kernel
theorem dX7_keep_33 : decode cX7_keep 33 = .ok (.return_, 1) := by decide +kernel
theorem dX7_note_0 : decode cX7_note 0 = .ok (.aload_n 1, 1) := by decide +kernel
theorem dX7_note_1 : decode cX7_note 1 = .ok (.getfield 83, 3) := by decide +kernel
theorem dX7_note_4 : decode cX7_note 4 = .ok (.bipush 104, 2) := by decide +kernel
theorem dX7_note_6 : decode cX7_note 6 = .ok (.imul, 1) := by decide +kernel
theorem dX7_note_7 : decode cX7_note 7 = .ok (.aload_n 1, 1) := by decide +kernel
theorem dX7_note_8 : decode cX7_note 8 = .ok (.getfield 86, 3) := by decide +kernel
theorem dX7_note_11 : decode cX7_note 11 = .ok (.iadd, 1) := by decide +kernel
theorem dX7_note_12 : decode cX7_note 12 = .ok (.istore_n 2, 1) := by decide +kernel
theorem dX7_note_13 : decode cX7_note 13 = .ok (.aload_n 1, 1) := by decide +kernel
theorem dX7_note_14 : decode cX7_note 14 = .ok (.getfield 89, 3) := by decide +kernel
theorem dX7_note_17 : decode cX7_note 17 = .ok (.ifCond .ne 26, 3) := by decide +kernel
theorem dX7_note_20 : decode cX7_note 20 = .ok (.iload_n 2, 1) := by decide +kernel
theorem dX7_note_21 : decode cX7_note 21 = .ok (.ifCond .lt 22, 3) := by decide +kernel
theorem dX7_note_24 : decode cX7_note 24 = .ok (.iload_n 2, 1) := by decide +kernel
theorem dX7_note_25 : decode cX7_note 25 = .ok (.aload_n 0, 1) := by decide +kernel
theorem dX7_note_26 : decode cX7_note 26 = .ok (.getfield 9, 3) := by decide +kernel
theorem dX7_note_29 : decode cX7_note 29 = .ok (.arraylength, 1) := by decide +kernel
theorem dX7_note_30 : decode cX7_note 30 = .ok (.if_icmp .ge 13, 3) := by decide +kernel
theorem dX7_note_33 : decode cX7_note 33 = .ok (.aload_n 0, 1) := by decide +kernel
theorem dX7_note_34 : decode cX7_note 34 = .ok (.getfield 9, 3) := by decide +kernel
theorem dX7_note_37 : decode cX7_note 37 = .ok (.iload_n 2, 1) := by decide +kernel
theorem dX7_note_38 : decode cX7_note 38 = .ok (.aload_n 1, 1) := by decide +kernel
theorem dX7_note_39 : decode cX7_note 39 = .ok (.getfield 92, 3) := by decide +kernel
theorem dX7_note_42 : decode cX7_note 42 = .ok (.iastore, 1) := by decide +kernel
theorem dX7_note_43 : decode cX7_note 43 = .ok (.aload_n 1, 1) := by decide +kernel
theorem dX7_note_44 : decode cX7_note 44 = .ok (.getfield 89, 3) := by decide +kernel
theorem dX7_note_47 : decode cX7_note 47 = .ok (.iconst 1, 1) := by decide +kernel
theorem dX7_note_48 : decode cX7_note 48 = .ok (.if_icmp .ne 32, 3) := by decide +kernel
theorem dX7_note_51 : decode cX7_note 51 = .ok (.aload_n 1, 1) := by decide +kernel
theorem dX7_note_52 : decode cX7_note 52 = .ok (.getfield 86, 3) := by decide +kernel
theorem dX7_note_55 : decode cX7_note 55 = .ok (.ifCond .lt 25, 3) := by decide +kernel
theorem dX7_note_58 : decode cX7_note 58 = .ok (.aload_n 1, 1) := by decide +kernel
theorem dX7_note_59 : decode cX7_note 59 = .ok (.getfield 86, 3) := by decide +kernel
theorem dX7_note_62 : decode cX7_note 62 = .ok (.aload_n 0, 1) := by decide +kernel
theorem dX7_note_63 : decode cX7_note 63 = .ok (.getfield 15, 3) := by decide +kernel
theorem dX7_note_66 : decode cX7_note 66 = .ok (.arraylength, 1) := by decide +kernel
theorem dX7_note_67 : decode cX7_note 67 = .ok (.if_icmp .ge 13, 3) := by decide +kernel
theorem dX7_note_70 : decode cX7_note 70 = .ok (.aload_n 0, 1) := by decide +kernel
theorem dX7_note_71 : decode cX7_note 71 = .ok (.getfield 15, 3) := by decide +kernel
theorem dX7_note_74 : decode cX7_note 74 = .ok (.aload_n 1, 1) := by decide +kernel
theorem dX7_note_75 : decode cX7_note 75 = .ok (.getfield 86, 3) := by decide +kernel
theorem dX7_note_78 : decode cX7_note 78 = .ok (.iconst 1, 1) := by decide +kernel
theorem dX7_note_79 : decode cX7_note 79 = .ok (.iastore, 1) := by decide +kernel
theorem dX7_note_80 : decode cX7_note 80 = .ok (.return_, 1) := by decide +kernel
theorem dX7_layOut_0 : decode cX7_layOut 0 = .ok (.aload_n 0, 1) := by decide +kernel
theorem dX7_layOut_1 : decode cX7_layOut 1 = .ok (.getfield 43, 3) := by decide +kernel
theorem dX7_layOut_4 : decode cX7_layOut 4 = .ok (.ifCond .eq 12, 3) := by decide +kernel
theorem dX7_layOut_7 : decode cX7_layOut 7 = .ok (.aload_n 0, 1) := by decide +kernel
theorem dX7_layOut_8 : decode cX7_layOut 8 = .ok (.getfield 47, 3) := by decide +kernel
theorem dX7_layOut_11 : decode cX7_layOut 11 = .ok (.iload_n 1, 1) := by decide +kernel
theorem dX7_layOut_12 : decode cX7_layOut 12 = .ok (.if_icmp .ne 4, 3) := by decide +kernel
theorem dX7_layOut_15 : decode cX7_layOut 15 = .ok (.return_, 1) := by decide +kernel
theorem dX7_layOut_16 : decode cX7_layOut 16 = .ok (.aload_n 0, 1) := by decide +kernel
theorem dX7_layOut_17 : decode cX7_layOut 17 = .ok (.getfield 9, 3) := by decide +kernel
theorem dX7_layOut_20 : decode cX7_layOut 20 = .ok (.iconst 0, 1) := by decide +kernel
theorem dX7_layOut_21 : decode cX7_layOut 21 = .ok (.invokestatic 50, 3) := by decide +kernel
theorem dX7_layOut_24 : decode cX7_layOut 24 = .ok (.aload_n 0, 1) := by decide +kernel
theorem dX7_layOut_25 : decode cX7_layOut 25 = .ok (.getfield 15, 3) := by decide +kernel
theorem dX7_layOut_28 : decode cX7_layOut 28 = .ok (.iconst 0, 1) := by decide +kernel
theorem dX7_layOut_29 : decode cX7_layOut 29 = .ok (.invokestatic 50, 3) := by decide +kernel
theorem dX7_layOut_32 : decode cX7_layOut 32 = .ok (.aload_n 0, 1) := by decide +kernel
theorem dX7_layOut_33 : decode cX7_layOut 33 = .ok (.getfield 35, 3) := by decide +kernel
theorem dX7_layOut_36 : decode cX7_layOut 36 = .ok (.astore_n 3, 1) := by decide +kernel
theorem dX7_layOut_37 : decode cX7_layOut 37 = .ok (.aload_n 3, 1) := by decide +kernel
theorem dX7_layOut_38 : decode cX7_layOut 38 = .ok (.ifnull 24, 3) := by decide +kernel
theorem dX7_layOut_41 : decode cX7_layOut 41 = .ok (.aload_n 3, 1) := by decide +kernel
theorem dX7_layOut_42 : decode cX7_layOut 42 = .ok (.iload_n 1, 1) := by decide +kernel
theorem dX7_layOut_43 : decode cX7_layOut 43 = .ok (.invokevirtual 56, 3) := by decide +kernel
theorem dX7_layOut_46 : decode cX7_layOut 46 = .ok (.ifCond .eq 8, 3) := by decide +kernel
theorem dX7_layOut_49 : decode cX7_layOut 49 = .ok (.aload_n 0, 1) := by decide +kernel
theorem dX7_layOut_50 : decode cX7_layOut 50 = .ok (.aload_n 3, 1) := by decide +kernel
theorem dX7_layOut_51 : decode cX7_layOut 51 = .ok (.invokevirtual 60, 3) := by decide +kernel
theorem dX7_layOut_54 : decode cX7_layOut 54 = .ok (.aload_n 3, 1) := by decide +kernel
theorem dX7_layOut_55 : decode cX7_layOut 55 = .ok (.getfield 38, 3) := by decide +kernel
theorem dX7_layOut_58 : decode cX7_layOut 58 = .ok (.astore_n 3, 1) := by decide +kernel
theorem dX7_layOut_59 : decode cX7_layOut 59 = .ok (.goto (-22), 3) := by decide +kernel
theorem dX7_layOut_62 : decode cX7_layOut 62 = .ok (.iconst 0, 1) := by decide +kernel
theorem dX7_layOut_63 : decode cX7_layOut 63 = .ok (.istore_n 3, 1) := by decide +kernel
theorem dX7_layOut_64 : decode cX7_layOut 64 = .ok (.iload_n 3, 1) := by decide +kernel
theorem dX7_layOut_65 : decode cX7_layOut 65 = .ok (.bipush 104, 2) := by decide +kernel
theorem dX7_layOut_67 : decode cX7_layOut 67 = .ok (.if_icmp .ge 32, 3) := by decide +kernel
theorem dX7_layOut_70 : decode cX7_layOut 70 = .ok (.iload_n 3, 1) := by decide +kernel
theorem dX7_layOut_71 : decode cX7_layOut 71 = .ok (.aload_n 0, 1) := by decide +kernel
theorem dX7_layOut_72 : decode cX7_layOut 72 = .ok (.getfield 15, 3) := by decide +kernel
theorem dX7_layOut_75 : decode cX7_layOut 75 = .ok (.arraylength, 1) := by decide +kernel
theorem dX7_layOut_76 : decode cX7_layOut 76 = .ok (.if_icmp .ge 23, 3) := by decide +kernel
theorem dX7_layOut_79 : decode cX7_layOut 79 = .ok (.aload_n 0, 1) := by decide +kernel
theorem dX7_layOut_80 : decode cX7_layOut 80 = .ok (.getfield 15, 3) := by decide +kernel
theorem dX7_layOut_83 : decode cX7_layOut 83 = .ok (.iload_n 3, 1) := by decide +kernel
theorem dX7_layOut_84 : decode cX7_layOut 84 = .ok (.iaload, 1) := by decide +kernel
theorem dX7_layOut_85 : decode cX7_layOut 85 = .ok (.ifCond .eq 8, 3) := by decide +kernel
theorem dX7_layOut_88 : decode cX7_layOut 88 = .ok (.aload_n 0, 1) := by decide +kernel
theorem dX7_layOut_89 : decode cX7_layOut 89 = .ok (.iload_n 3, 1) := by decide +kernel
theorem dX7_layOut_90 : decode cX7_layOut 90 = .ok (.invokevirtual 64, 3) := by decide +kernel
theorem dX7_layOut_93 : decode cX7_layOut 93 = .ok (.iinc 3 1, 3) := by decide +kernel
theorem dX7_layOut_96 : decode cX7_layOut 96 = .ok (.goto (-32), 3) := by decide +kernel
theorem dX7_layOut_99 : decode cX7_layOut 99 = .ok (.aload_n 0, 1) := by decide +kernel
theorem dX7_layOut_100 : decode cX7_layOut 100 = .ok (.getfield 9, 3) := by decide +kernel
theorem dX7_layOut_103 : decode cX7_layOut 103 = .ok (.iconst 0, 1) := by decide +kernel
theorem dX7_layOut_104 : decode cX7_layOut 104 = .ok (.aload_n 0, 1) := by decide +kernel
theorem dX7_layOut_105 : decode cX7_layOut 105 = .ok (.getfield 18, 3) := by decide +kernel
theorem dX7_layOut_108 : decode cX7_layOut 108 = .ok (.iconst 0, 1) := by decide +kernel
theorem dX7_layOut_109 : decode cX7_layOut 109 = .ok (.bipush 104, 2) := by decide +kernel
theorem dX7_layOut_111 : decode cX7_layOut 111 = .ok (.invokestatic 68, 3) := by decide +kernel
theorem dX7_layOut_114 : decode cX7_layOut 114 = .ok (.aload_n 0, 1) := by decide +kernel
theorem dX7_layOut_115 : decode cX7_layOut 115 = .ok (.getfield 9, 3) := by decide +kernel
theorem dX7_layOut_118 : decode cX7_layOut 118 = .ok (.iconst 0, 1) := by decide +kernel
theorem dX7_layOut_119 : decode cX7_layOut 119 = .ok (.aload_n 0, 1) := by decide +kernel
theorem dX7_layOut_120 : decode cX7_layOut 120 = .ok (.getfield 21, 3) := by decide +kernel
theorem dX7_layOut_123 : decode cX7_layOut 123 = .ok (.iconst 0, 1) := by decide +kernel
theorem dX7_layOut_124 : decode cX7_layOut 124 = .ok (.bipush 104, 2) := by decide +kernel
theorem dX7_layOut_126 : decode cX7_layOut 126 = .ok (.invokestatic 68, 3) := by decide +kernel
theorem dX7_layOut_129 : decode cX7_layOut 129 = .ok (.aload_n 0, 1) := by decide +kernel
theorem dX7_layOut_130 : decode cX7_layOut 130 = .ok (.aload_n 2, 1) := by decide +kernel
theorem dX7_layOut_131 : decode cX7_layOut 131 = .ok (.aload_n 0, 1) := by decide +kernel
theorem dX7_layOut_132 : decode cX7_layOut 132 = .ok (.iload_n 1, 1) := by decide +kernel
theorem dX7_layOut_133 : decode cX7_layOut 133 = .ok (.invokevirtual 74, 3) := by decide +kernel
theorem dX7_layOut_136 : decode cX7_layOut 136 = .ok (.putfield 80, 3) := by decide +kernel
theorem dX7_layOut_139 : decode cX7_layOut 139 = .ok (.aload_n 0, 1) := by decide +kernel
theorem dX7_layOut_140 : decode cX7_layOut 140 = .ok (.iconst 1, 1) := by decide +kernel
theorem dX7_layOut_141 : decode cX7_layOut 141 = .ok (.putfield 43, 3) := by decide +kernel
theorem dX7_layOut_144 : decode cX7_layOut 144 = .ok (.aload_n 0, 1) := by decide +kernel
theorem dX7_layOut_145 : decode cX7_layOut 145 = .ok (.iload_n 1, 1) := by decide +kernel
theorem dX7_layOut_146 : decode cX7_layOut 146 = .ok (.putfield 47, 3) := by decide +kernel
theorem dX7_layOut_149 : decode cX7_layOut 149 = .ok (.return_, 1) := by decide +kernel
theorem dX8_isWeek_0 : decode cX8_isWeek 0 = .ok (.iload_n 0, 1) := by decide +kernel
theorem dX8_isWeek_1 : decode cX8_isWeek 1 = .ok (.iconst 0, 1) := by decide +kernel
theorem dX8_isWeek_2 : decode cX8_isWeek 2 = .ok (.bipush 103, 2) := by decide +kernel
theorem dX8_isWeek_4 : decode cX8_isWeek 4 = .ok (.invokestatic 81, 3) := by decide +kernel
theorem dX8_isWeek_7 : decode cX8_isWeek 7 = .ok (.ireturn, 1) := by decide +kernel
theorem dX4_leaf_0 : decode cX4_leaf 0 = .ok (.iload_n 1, 1) := by decide +kernel
theorem dX4_leaf_1 : decode cX4_leaf 1 = .ok (.sipush 10000, 3) := by decide +kernel
theorem dX4_leaf_4 : decode cX4_leaf 4 = .ok (.if_icmp .ge 5, 3) := by decide +kernel
theorem dX4_leaf_7 : decode cX4_leaf 7 = .ok (.iload_n 1, 1) := by decide +kernel
theorem dX4_leaf_8 : decode cX4_leaf 8 = .ok (.ireturn, 1) := by decide +kernel
theorem dX4_leaf_9 : decode cX4_leaf 9 = .ok (.iload_n 1, 1) := by decide +kernel
theorem dX4_leaf_10 : decode cX4_leaf 10 = .ok (.tableswitch 88 10006 10009 #[30, 76, 78, 83], 30) := by decide +kernel
theorem dX4_leaf_40 : decode cX4_leaf 40 = .ok (.iconst 0, 1) := by decide +kernel
theorem dX4_leaf_41 : decode cX4_leaf 41 = .ok (.istore_n 3, 1) := by decide +kernel
theorem dX4_leaf_42 : decode cX4_leaf 42 = .ok (.iload_n 2, 1) := by decide +kernel
theorem dX4_leaf_43 : decode cX4_leaf 43 = .ok (.istore 4, 2) := by decide +kernel
theorem dX4_leaf_45 : decode cX4_leaf 45 = .ok (.iload 4, 2) := by decide +kernel
theorem dX4_leaf_47 : decode cX4_leaf 47 = .ok (.ifCond .lt 37, 3) := by decide +kernel
theorem dX4_leaf_50 : decode cX4_leaf 50 = .ok (.iload 4, 2) := by decide +kernel
theorem dX4_leaf_52 : decode cX4_leaf 52 = .ok (.sipush 520, 3) := by decide +kernel
theorem dX4_leaf_55 : decode cX4_leaf 55 = .ok (.if_icmp .ge 29, 3) := by decide +kernel
theorem dX4_leaf_58 : decode cX4_leaf 58 = .ok (.iload 4, 2) := by decide +kernel
theorem dX4_leaf_60 : decode cX4_leaf 60 = .ok (.aload_n 0, 1) := by decide +kernel
theorem dX4_leaf_61 : decode cX4_leaf 61 = .ok (.getfield 18, 3) := by decide +kernel
theorem dX4_leaf_64 : decode cX4_leaf 64 = .ok (.arraylength, 1) := by decide +kernel
theorem dX4_leaf_65 : decode cX4_leaf 65 = .ok (.if_icmp .ge 19, 3) := by decide +kernel
theorem dX4_leaf_68 : decode cX4_leaf 68 = .ok (.iload_n 3, 1) := by decide +kernel
theorem dX4_leaf_69 : decode cX4_leaf 69 = .ok (.aload_n 0, 1) := by decide +kernel
theorem dX4_leaf_70 : decode cX4_leaf 70 = .ok (.getfield 18, 3) := by decide +kernel
theorem dX4_leaf_73 : decode cX4_leaf 73 = .ok (.iload 4, 2) := by decide +kernel
theorem dX4_leaf_75 : decode cX4_leaf 75 = .ok (.iaload, 1) := by decide +kernel
theorem dX4_leaf_76 : decode cX4_leaf 76 = .ok (.iadd, 1) := by decide +kernel
theorem dX4_leaf_77 : decode cX4_leaf 77 = .ok (.istore_n 3, 1) := by decide +kernel
theorem dX4_leaf_78 : decode cX4_leaf 78 = .ok (.iinc 4 104, 3) := by decide +kernel
theorem dX4_leaf_81 : decode cX4_leaf 81 = .ok (.goto (-36), 3) := by decide +kernel
theorem dX4_leaf_84 : decode cX4_leaf 84 = .ok (.iload_n 3, 1) := by decide +kernel
theorem dX4_leaf_85 : decode cX4_leaf 85 = .ok (.ireturn, 1) := by decide +kernel
theorem dX4_leaf_86 : decode cX4_leaf 86 = .ok (.iload_n 2, 1) := by decide +kernel
theorem dX4_leaf_87 : decode cX4_leaf 87 = .ok (.ireturn, 1) := by decide +kernel
theorem dX4_leaf_88 : decode cX4_leaf 88 = .ok (.aload_n 0, 1) := by decide +kernel
theorem dX4_leaf_89 : decode cX4_leaf 89 = .ok (.getfield 51, 3) := by decide +kernel
theorem dX4_leaf_92 : decode cX4_leaf 92 = .ok (.ireturn, 1) := by decide +kernel
theorem dX4_leaf_93 : decode cX4_leaf 93 = .ok (.aload_n 0, 1) := by decide +kernel
theorem dX4_leaf_94 : decode cX4_leaf 94 = .ok (.getfield 55, 3) := by decide +kernel
theorem dX4_leaf_97 : decode cX4_leaf 97 = .ok (.ireturn, 1) := by decide +kernel
theorem dX4_leaf_98 : decode cX4_leaf 98 = .ok (.iload_n 1, 1) := by decide +kernel
theorem dX4_leaf_99 : decode cX4_leaf 99 = .ok (.sipush 10000, 3) := by decide +kernel
theorem dX4_leaf_102 : decode cX4_leaf 102 = .ok (.isub, 1) := by decide +kernel
theorem dX4_leaf_103 : decode cX4_leaf 103 = .ok (.bipush 104, 2) := by decide +kernel
theorem dX4_leaf_105 : decode cX4_leaf 105 = .ok (.imul, 1) := by decide +kernel
theorem dX4_leaf_106 : decode cX4_leaf 106 = .ok (.iload_n 2, 1) := by decide +kernel
theorem dX4_leaf_107 : decode cX4_leaf 107 = .ok (.iadd, 1) := by decide +kernel
theorem dX4_leaf_108 : decode cX4_leaf 108 = .ok (.istore 4, 2) := by decide +kernel
theorem dX4_leaf_110 : decode cX4_leaf 110 = .ok (.iload 4, 2) := by decide +kernel
theorem dX4_leaf_112 : decode cX4_leaf 112 = .ok (.ifCond .lt 23, 3) := by decide +kernel
theorem dX4_leaf_115 : decode cX4_leaf 115 = .ok (.iload 4, 2) := by decide +kernel
theorem dX4_leaf_117 : decode cX4_leaf 117 = .ok (.aload_n 0, 1) := by decide +kernel
theorem dX4_leaf_118 : decode cX4_leaf 118 = .ok (.getfield 18, 3) := by decide +kernel
theorem dX4_leaf_121 : decode cX4_leaf 121 = .ok (.arraylength, 1) := by decide +kernel
theorem dX4_leaf_122 : decode cX4_leaf 122 = .ok (.if_icmp .ge 13, 3) := by decide +kernel
theorem dX4_leaf_125 : decode cX4_leaf 125 = .ok (.aload_n 0, 1) := by decide +kernel
theorem dX4_leaf_126 : decode cX4_leaf 126 = .ok (.getfield 18, 3) := by decide +kernel
theorem dX4_leaf_129 : decode cX4_leaf 129 = .ok (.iload 4, 2) := by decide +kernel
theorem dX4_leaf_131 : decode cX4_leaf 131 = .ok (.iaload, 1) := by decide +kernel
theorem dX4_leaf_132 : decode cX4_leaf 132 = .ok (.goto 4, 3) := by decide +kernel
theorem dX4_leaf_135 : decode cX4_leaf 135 = .ok (.iconst 0, 1) := by decide +kernel
theorem dX4_leaf_136 : decode cX4_leaf 136 = .ok (.ireturn, 1) := by decide +kernel
theorem dX4_habit_0 : decode cX4_habit 0 = .ok (.iconst 0, 1) := by decide +kernel
theorem dX4_habit_1 : decode cX4_habit 1 = .ok (.istore_n 3, 1) := by decide +kernel
theorem dX4_habit_2 : decode cX4_habit 2 = .ok (.iload_n 2, 1) := by decide +kernel
theorem dX4_habit_3 : decode cX4_habit 3 = .ok (.bipush 12, 2) := by decide +kernel
theorem dX4_habit_5 : decode cX4_habit 5 = .ok (.if_icmp .ge 7, 3) := by decide +kernel
theorem dX4_habit_8 : decode cX4_habit 8 = .ok (.iconst 0, 1) := by decide +kernel
theorem dX4_habit_9 : decode cX4_habit 9 = .ok (.goto 7, 3) := by decide +kernel
theorem dX4_habit_12 : decode cX4_habit 12 = .ok (.iload_n 2, 1) := by decide +kernel
theorem dX4_habit_13 : decode cX4_habit 13 = .ok (.bipush 12, 2) := by decide +kernel
theorem dX4_habit_15 : decode cX4_habit 15 = .ok (.isub, 1) := by decide +kernel
theorem dX4_habit_16 : decode cX4_habit 16 = .ok (.istore 4, 2) := by decide +kernel
theorem dX4_habit_18 : decode cX4_habit 18 = .ok (.iload 4, 2) := by decide +kernel
theorem dX4_habit_20 : decode cX4_habit 20 = .ok (.iload_n 2, 1) := by decide +kernel
theorem dX4_habit_21 : decode cX4_habit 21 = .ok (.if_icmp .ge 46, 3) := by decide +kernel
theorem dX4_habit_24 : decode cX4_habit 24 = .ok (.iload_n 1, 1) := by decide +kernel
theorem dX4_habit_25 : decode cX4_habit 25 = .ok (.bipush 104, 2) := by decide +kernel
theorem dX4_habit_27 : decode cX4_habit 27 = .ok (.imul, 1) := by decide +kernel
theorem dX4_habit_28 : decode cX4_habit 28 = .ok (.iload 4, 2) := by decide +kernel
theorem dX4_habit_30 : decode cX4_habit 30 = .ok (.iadd, 1) := by decide +kernel
theorem dX4_habit_31 : decode cX4_habit 31 = .ok (.istore 5, 2) := by decide +kernel
theorem dX4_habit_33 : decode cX4_habit 33 = .ok (.iload 5, 2) := by decide +kernel
theorem dX4_habit_35 : decode cX4_habit 35 = .ok (.ifCond .lt 26, 3) := by decide +kernel
theorem dX4_habit_38 : decode cX4_habit 38 = .ok (.iload 5, 2) := by decide +kernel
theorem dX4_habit_40 : decode cX4_habit 40 = .ok (.aload_n 0, 1) := by decide +kernel
theorem dX4_habit_41 : decode cX4_habit 41 = .ok (.getfield 18, 3) := by decide +kernel
theorem dX4_habit_44 : decode cX4_habit 44 = .ok (.arraylength, 1) := by decide +kernel
theorem dX4_habit_45 : decode cX4_habit 45 = .ok (.if_icmp .ge 16, 3) := by decide +kernel
theorem dX4_habit_48 : decode cX4_habit 48 = .ok (.aload_n 0, 1) := by decide +kernel
theorem dX4_habit_49 : decode cX4_habit 49 = .ok (.getfield 18, 3) := by decide +kernel
theorem dX4_habit_52 : decode cX4_habit 52 = .ok (.iload 5, 2) := by decide +kernel
theorem dX4_habit_54 : decode cX4_habit 54 = .ok (.iaload, 1) := by decide +kernel
theorem dX4_habit_55 : decode cX4_habit 55 = .ok (.ifCond .le 6, 3) := by decide +kernel
theorem dX4_habit_58 : decode cX4_habit 58 = .ok (.iinc 3 1, 3) := by decide +kernel
theorem dX4_habit_61 : decode cX4_habit 61 = .ok (.iinc 4 1, 3) := by decide +kernel
theorem dX4_habit_64 : decode cX4_habit 64 = .ok (.goto (-46), 3) := by decide +kernel
theorem dX4_habit_67 : decode cX4_habit 67 = .ok (.iload_n 3, 1) := by decide +kernel
theorem dX4_habit_68 : decode cX4_habit 68 = .ok (.ireturn, 1) := by decide +kernel
theorem dX4_join_0 : decode cX4_join 0 = .ok (.iload_n 0, 1) := by decide +kernel
theorem dX4_join_1 : decode cX4_join 1 = .ok (.lookupswitch 148 #[(10, 75), (11, 89), (42, 144), (43, 136), (45, 140), (60, 103), (61, 125), (62, 114)], 75) := by decide +kernel
theorem dX4_join_76 : decode cX4_join 76 = .ok (.iload_n 1, 1) := by decide +kernel
theorem dX4_join_77 : decode cX4_join 77 = .ok (.ifCond .ne 7, 3) := by decide +kernel
theorem dX4_join_80 : decode cX4_join 80 = .ok (.iload_n 2, 1) := by decide +kernel
theorem dX4_join_81 : decode cX4_join 81 = .ok (.ifCond .eq 7, 3) := by decide +kernel
theorem dX4_join_84 : decode cX4_join 84 = .ok (.iconst 1, 1) := by decide +kernel
theorem dX4_join_85 : decode cX4_join 85 = .ok (.goto 4, 3) := by decide +kernel
theorem dX4_join_88 : decode cX4_join 88 = .ok (.iconst 0, 1) := by decide +kernel
theorem dX4_join_89 : decode cX4_join 89 = .ok (.ireturn, 1) := by decide +kernel
theorem dX4_join_90 : decode cX4_join 90 = .ok (.iload_n 1, 1) := by decide +kernel
theorem dX4_join_91 : decode cX4_join 91 = .ok (.ifCond .eq 11, 3) := by decide +kernel
theorem dX4_join_94 : decode cX4_join 94 = .ok (.iload_n 2, 1) := by decide +kernel
theorem dX4_join_95 : decode cX4_join 95 = .ok (.ifCond .eq 7, 3) := by decide +kernel
theorem dX4_join_98 : decode cX4_join 98 = .ok (.iconst 1, 1) := by decide +kernel
theorem dX4_join_99 : decode cX4_join 99 = .ok (.goto 4, 3) := by decide +kernel
theorem dX4_join_102 : decode cX4_join 102 = .ok (.iconst 0, 1) := by decide +kernel
theorem dX4_join_103 : decode cX4_join 103 = .ok (.ireturn, 1) := by decide +kernel
theorem dX4_join_104 : decode cX4_join 104 = .ok (.iload_n 1, 1) := by decide +kernel
theorem dX4_join_105 : decode cX4_join 105 = .ok (.iload_n 2, 1) := by decide +kernel
theorem dX4_join_106 : decode cX4_join 106 = .ok (.if_icmp .ge 7, 3) := by decide +kernel
theorem dX4_join_109 : decode cX4_join 109 = .ok (.iconst 1, 1) := by decide +kernel
theorem dX4_join_110 : decode cX4_join 110 = .ok (.goto 4, 3) := by decide +kernel
theorem dX4_join_113 : decode cX4_join 113 = .ok (.iconst 0, 1) := by decide +kernel
theorem dX4_join_114 : decode cX4_join 114 = .ok (.ireturn, 1) := by decide +kernel
theorem dX4_join_115 : decode cX4_join 115 = .ok (.iload_n 1, 1) := by decide +kernel
theorem dX4_join_116 : decode cX4_join 116 = .ok (.iload_n 2, 1) := by decide +kernel
theorem dX4_join_117 : decode cX4_join 117 = .ok (.if_icmp .le 7, 3) := by decide +kernel
theorem dX4_join_120 : decode cX4_join 120 = .ok (.iconst 1, 1) := by decide +kernel
theorem dX4_join_121 : decode cX4_join 121 = .ok (.goto 4, 3) := by decide +kernel
theorem dX4_join_124 : decode cX4_join 124 = .ok (.iconst 0, 1) := by decide +kernel
theorem dX4_join_125 : decode cX4_join 125 = .ok (.ireturn, 1) := by decide +kernel
theorem dX4_join_126 : decode cX4_join 126 = .ok (.iload_n 1, 1) := by decide +kernel
theorem dX4_join_127 : decode cX4_join 127 = .ok (.iload_n 2, 1) := by decide +kernel
theorem dX4_join_128 : decode cX4_join 128 = .ok (.if_icmp .ne 7, 3) := by decide +kernel
theorem dX4_join_131 : decode cX4_join 131 = .ok (.iconst 1, 1) := by decide +kernel
theorem dX4_join_132 : decode cX4_join 132 = .ok (.goto 4, 3) := by decide +kernel
theorem dX4_join_135 : decode cX4_join 135 = .ok (.iconst 0, 1) := by decide +kernel
theorem dX4_join_136 : decode cX4_join 136 = .ok (.ireturn, 1) := by decide +kernel
theorem dX4_join_137 : decode cX4_join 137 = .ok (.iload_n 1, 1) := by decide +kernel
theorem dX4_join_138 : decode cX4_join 138 = .ok (.iload_n 2, 1) := by decide +kernel
theorem dX4_join_139 : decode cX4_join 139 = .ok (.iadd, 1) := by decide +kernel
theorem dX4_join_140 : decode cX4_join 140 = .ok (.ireturn, 1) := by decide +kernel
theorem dX4_join_141 : decode cX4_join 141 = .ok (.iload_n 1, 1) := by decide +kernel
theorem dX4_join_142 : decode cX4_join 142 = .ok (.iload_n 2, 1) := by decide +kernel
theorem dX4_join_143 : decode cX4_join 143 = .ok (.isub, 1) := by decide +kernel
theorem dX4_join_144 : decode cX4_join 144 = .ok (.ireturn, 1) := by decide +kernel
theorem dX4_join_145 : decode cX4_join 145 = .ok (.iload_n 1, 1) := by decide +kernel
theorem dX4_join_146 : decode cX4_join 146 = .ok (.iload_n 2, 1) := by decide +kernel
theorem dX4_join_147 : decode cX4_join 147 = .ok (.imul, 1) := by decide +kernel
theorem dX4_join_148 : decode cX4_join 148 = .ok (.ireturn, 1) := by decide +kernel
theorem dX4_join_149 : decode cX4_join 149 = .ok (.iload_n 2, 1) := by decide +kernel
theorem dX4_join_150 : decode cX4_join 150 = .ok (.ifCond .ne 7, 3) := by decide +kernel
theorem dX4_join_153 : decode cX4_join 153 = .ok (.iconst 0, 1) := by decide +kernel
theorem dX4_join_154 : decode cX4_join 154 = .ok (.goto 6, 3) := by decide +kernel
theorem dX4_join_157 : decode cX4_join 157 = .ok (.iload_n 1, 1) := by decide +kernel
theorem dX4_join_158 : decode cX4_join 158 = .ok (.iload_n 2, 1) := by decide +kernel
theorem dX4_join_159 : decode cX4_join 159 = .ok (.idiv, 1) := by decide +kernel
theorem dX4_join_160 : decode cX4_join 160 = .ok (.ireturn, 1) := by decide +kernel
theorem dX4_valueOf_0 : decode cX4_valueOf 0 = .ok (.iconst 0, 1) := by decide +kernel
theorem dX4_valueOf_1 : decode cX4_valueOf 1 = .ok (.istore_n 3, 1) := by decide +kernel
theorem dX4_valueOf_2 : decode cX4_valueOf 2 = .ok (.iconst 0, 1) := by decide +kernel
theorem dX4_valueOf_3 : decode cX4_valueOf 3 = .ok (.istore 4, 2) := by decide +kernel
theorem dX4_valueOf_5 : decode cX4_valueOf 5 = .ok (.iload 4, 2) := by decide +kernel
theorem dX4_valueOf_7 : decode cX4_valueOf 7 = .ok (.aload_n 1, 1) := by decide +kernel
theorem dX4_valueOf_8 : decode cX4_valueOf 8 = .ok (.arraylength, 1) := by decide +kernel
theorem dX4_valueOf_9 : decode cX4_valueOf 9 = .ok (.if_icmp .ge 151, 3) := by decide +kernel
theorem dX4_valueOf_12 : decode cX4_valueOf 12 = .ok (.aload_n 1, 1) := by decide +kernel
theorem dX4_valueOf_13 : decode cX4_valueOf 13 = .ok (.iload 4, 2) := by decide +kernel
theorem dX4_valueOf_15 : decode cX4_valueOf 15 = .ok (.iaload, 1) := by decide +kernel
theorem dX4_valueOf_16 : decode cX4_valueOf 16 = .ok (.istore 5, 2) := by decide +kernel
theorem dX4_valueOf_18 : decode cX4_valueOf 18 = .ok (.iload 5, 2) := by decide +kernel
theorem dX4_valueOf_20 : decode cX4_valueOf 20 = .ok (.sipush 20000, 3) := by decide +kernel
theorem dX4_valueOf_23 : decode cX4_valueOf 23 = .ok (.if_icmp .ge 53, 3) := by decide +kernel
theorem dX4_valueOf_26 : decode cX4_valueOf 26 = .ok (.iload_n 3, 1) := by decide +kernel
theorem dX4_valueOf_27 : decode cX4_valueOf 27 = .ok (.aload_n 0, 1) := by decide +kernel
theorem dX4_valueOf_28 : decode cX4_valueOf 28 = .ok (.getfield 31, 3) := by decide +kernel
theorem dX4_valueOf_31 : decode cX4_valueOf 31 = .ok (.arraylength, 1) := by decide +kernel
theorem dX4_valueOf_32 : decode cX4_valueOf 32 = .ok (.if_icmp .ge 122, 3) := by decide +kernel
theorem dX4_valueOf_35 : decode cX4_valueOf 35 = .ok (.aload_n 0, 1) := by decide +kernel
theorem dX4_valueOf_36 : decode cX4_valueOf 36 = .ok (.getfield 31, 3) := by decide +kernel
theorem dX4_valueOf_39 : decode cX4_valueOf 39 = .ok (.iload_n 3, 1) := by decide +kernel
theorem dX4_valueOf_40 : decode cX4_valueOf 40 = .ok (.iload 5, 2) := by decide +kernel
theorem dX4_valueOf_42 : decode cX4_valueOf 42 = .ok (.sipush 10010, 3) := by decide +kernel
theorem dX4_valueOf_45 : decode cX4_valueOf 45 = .ok (.if_icmp .ge 13, 3) := by decide +kernel
theorem dX4_valueOf_48 : decode cX4_valueOf 48 = .ok (.aload_n 0, 1) := by decide +kernel
theorem dX4_valueOf_49 : decode cX4_valueOf 49 = .ok (.iload 5, 2) := by decide +kernel
theorem dX4_valueOf_51 : decode cX4_valueOf 51 = .ok (.iload_n 2, 1) := by decide +kernel
theorem dX4_valueOf_52 : decode cX4_valueOf 52 = .ok (.invokevirtual 113, 3) := by decide +kernel
theorem dX4_valueOf_55 : decode cX4_valueOf 55 = .ok (.goto 14, 3) := by decide +kernel
theorem dX4_valueOf_58 : decode cX4_valueOf 58 = .ok (.aload_n 0, 1) := by decide +kernel
theorem dX4_valueOf_59 : decode cX4_valueOf 59 = .ok (.iload 5, 2) := by decide +kernel
theorem dX4_valueOf_61 : decode cX4_valueOf 61 = .ok (.sipush 10010, 3) := by decide +kernel
theorem dX4_valueOf_64 : decode cX4_valueOf 64 = .ok (.isub, 1) := by decide +kernel
theorem dX4_valueOf_65 : decode cX4_valueOf 65 = .ok (.iload_n 2, 1) := by decide +kernel
theorem dX4_valueOf_66 : decode cX4_valueOf 66 = .ok (.invokevirtual 117, 3) := by decide +kernel
theorem dX4_valueOf_69 : decode cX4_valueOf 69 = .ok (.iastore, 1) := by decide +kernel
theorem dX4_valueOf_70 : decode cX4_valueOf 70 = .ok (.iinc 3 1, 3) := by decide +kernel
theorem dX4_valueOf_73 : decode cX4_valueOf 73 = .ok (.goto 81, 3) := by decide +kernel
theorem dX4_valueOf_76 : decode cX4_valueOf 76 = .ok (.iload 5, 2) := by decide +kernel
theorem dX4_valueOf_78 : decode cX4_valueOf 78 = .ok (.sipush 20012, 3) := by decide +kernel
theorem dX4_valueOf_81 : decode cX4_valueOf 81 = .ok (.if_icmp .ne 34, 3) := by decide +kernel
theorem dX4_valueOf_84 : decode cX4_valueOf 84 = .ok (.iload_n 3, 1) := by decide +kernel
theorem dX4_valueOf_85 : decode cX4_valueOf 85 = .ok (.ifCond .le 69, 3) := by decide +kernel
theorem dX4_valueOf_88 : decode cX4_valueOf 88 = .ok (.aload_n 0, 1) := by decide +kernel
theorem dX4_valueOf_89 : decode cX4_valueOf 89 = .ok (.getfield 31, 3) := by decide +kernel
theorem dX4_valueOf_92 : decode cX4_valueOf 92 = .ok (.iload_n 3, 1) := by decide +kernel
theorem dX4_valueOf_93 : decode cX4_valueOf 93 = .ok (.iconst 1, 1) := by decide +kernel
theorem dX4_valueOf_94 : decode cX4_valueOf 94 = .ok (.isub, 1) := by decide +kernel
theorem dX4_valueOf_95 : decode cX4_valueOf 95 = .ok (.aload_n 0, 1) := by decide +kernel
theorem dX4_valueOf_96 : decode cX4_valueOf 96 = .ok (.getfield 31, 3) := by decide +kernel
theorem dX4_valueOf_99 : decode cX4_valueOf 99 = .ok (.iload_n 3, 1) := by decide +kernel
theorem dX4_valueOf_100 : decode cX4_valueOf 100 = .ok (.iconst 1, 1) := by decide +kernel
theorem dX4_valueOf_101 : decode cX4_valueOf 101 = .ok (.isub, 1) := by decide +kernel
theorem dX4_valueOf_102 : decode cX4_valueOf 102 = .ok (.iaload, 1) := by decide +kernel
theorem dX4_valueOf_103 : decode cX4_valueOf 103 = .ok (.ifCond .ne 7, 3) := by decide +kernel
theorem dX4_valueOf_106 : decode cX4_valueOf 106 = .ok (.iconst 1, 1) := by decide +kernel
theorem dX4_valueOf_107 : decode cX4_valueOf 107 = .ok (.goto 4, 3) := by decide +kernel
theorem dX4_valueOf_110 : decode cX4_valueOf 110 = .ok (.iconst 0, 1) := by decide +kernel
theorem dX4_valueOf_111 : decode cX4_valueOf 111 = .ok (.iastore, 1) := by decide +kernel
theorem dX4_valueOf_112 : decode cX4_valueOf 112 = .ok (.goto 42, 3) := by decide +kernel
theorem dX4_valueOf_115 : decode cX4_valueOf 115 = .ok (.iload_n 3, 1) := by decide +kernel
theorem dX4_valueOf_116 : decode cX4_valueOf 116 = .ok (.iconst 1, 1) := by decide +kernel
theorem dX4_valueOf_117 : decode cX4_valueOf 117 = .ok (.if_icmp .le 37, 3) := by decide +kernel
theorem dX4_valueOf_120 : decode cX4_valueOf 120 = .ok (.iinc 3 (-1), 3) := by decide +kernel
theorem dX4_valueOf_123 : decode cX4_valueOf 123 = .ok (.aload_n 0, 1) := by decide +kernel
theorem dX4_valueOf_124 : decode cX4_valueOf 124 = .ok (.getfield 31, 3) := by decide +kernel
theorem dX4_valueOf_127 : decode cX4_valueOf 127 = .ok (.iload_n 3, 1) := by decide +kernel
theorem dX4_valueOf_128 : decode cX4_valueOf 128 = .ok (.iconst 1, 1) := by decide +kernel
theorem dX4_valueOf_129 : decode cX4_valueOf 129 = .ok (.isub, 1) := by decide +kernel
theorem dX4_valueOf_130 : decode cX4_valueOf 130 = .ok (.iload 5, 2) := by decide +kernel
theorem dX4_valueOf_132 : decode cX4_valueOf 132 = .ok (.sipush 20000, 3) := by decide +kernel
theorem dX4_valueOf_135 : decode cX4_valueOf 135 = .ok (.isub, 1) := by decide +kernel
theorem dX4_valueOf_136 : decode cX4_valueOf 136 = .ok (.aload_n 0, 1) := by decide +kernel
theorem dX4_valueOf_137 : decode cX4_valueOf 137 = .ok (.getfield 31, 3) := by decide +kernel
theorem dX4_valueOf_140 : decode cX4_valueOf 140 = .ok (.iload_n 3, 1) := by decide +kernel
theorem dX4_valueOf_141 : decode cX4_valueOf 141 = .ok (.iconst 1, 1) := by decide +kernel
theorem dX4_valueOf_142 : decode cX4_valueOf 142 = .ok (.isub, 1) := by decide +kernel
theorem dX4_valueOf_143 : decode cX4_valueOf 143 = .ok (.iaload, 1) := by decide +kernel
theorem dX4_valueOf_144 : decode cX4_valueOf 144 = .ok (.aload_n 0, 1) := by decide +kernel
theorem dX4_valueOf_145 : decode cX4_valueOf 145 = .ok (.getfield 31, 3) := by decide +kernel
theorem dX4_valueOf_148 : decode cX4_valueOf 148 = .ok (.iload_n 3, 1) := by decide +kernel
theorem dX4_valueOf_149 : decode cX4_valueOf 149 = .ok (.iaload, 1) := by decide +kernel
theorem dX4_valueOf_150 : decode cX4_valueOf 150 = .ok (.invokestatic 122, 3) := by decide +kernel
theorem dX4_valueOf_153 : decode cX4_valueOf 153 = .ok (.iastore, 1) := by decide +kernel
theorem dX4_valueOf_154 : decode cX4_valueOf 154 = .ok (.iinc 4 1, 3) := by decide +kernel
theorem dX4_valueOf_157 : decode cX4_valueOf 157 = .ok (.goto (-152), 3) := by decide +kernel
theorem dX4_valueOf_160 : decode cX4_valueOf 160 = .ok (.iload_n 3, 1) := by decide +kernel
theorem dX4_valueOf_161 : decode cX4_valueOf 161 = .ok (.ifCond .le 12, 3) := by decide +kernel
theorem dX4_valueOf_164 : decode cX4_valueOf 164 = .ok (.aload_n 0, 1) := by decide +kernel
theorem dX4_valueOf_165 : decode cX4_valueOf 165 = .ok (.getfield 31, 3) := by decide +kernel
theorem dX4_valueOf_168 : decode cX4_valueOf 168 = .ok (.iconst 0, 1) := by decide +kernel
theorem dX4_valueOf_169 : decode cX4_valueOf 169 = .ok (.iaload, 1) := by decide +kernel
theorem dX4_valueOf_170 : decode cX4_valueOf 170 = .ok (.goto 4, 3) := by decide +kernel
theorem dX4_valueOf_173 : decode cX4_valueOf 173 = .ok (.iconst 0, 1) := by decide +kernel
theorem dX4_valueOf_174 : decode cX4_valueOf 174 = .ok (.ireturn, 1) := by decide +kernel
def f_X6_lowerByBanks_L4 : Nat → Nat → Int32 → Int32 → Int32 → Hp → Option ((Int32 × Hp))
  | 0, _, _, _, _, _ => none
  | n + 1, a0, v1, v2, v3, h =>
    (getI h (some a0) 5 3).bind fun x1 =>
    if x1 ≤ v3 then
      some (v2, h)
    else
      (getQ h (some a0) 5 2).bind fun x4 =>
      (aln h x4 10).bind fun x6 =>
      if x6 ≤ v3 then
        some (v2, h)
      else
        (getQ h (some a0) 5 0).bind fun x9 =>
        (rdI h x9 10 v3).bind fun x11 =>
        (getQ h (some a0) 5 1).bind fun x13 =>
        (rdI h x13 10 v3).bind fun x15 =>
        b1 ((if x11 < (0 : Int32) then
            some (0, h)
          else
            (getQ h (some a0) 5 9).bind fun x29 =>
            (aln h x29 10).bind fun x31 =>
            if x31 ≤ x11 then
              some (0, h)
            else
              if x15 < (0 : Int32) then
                some (0, h)
              else
                (getQ h (some a0) 5 9).bind fun x35 =>
                (aln h x35 10).bind fun x37 =>
                if x37 ≤ x15 then
                  some (0, h)
                else
                  some (1, h) : Option (Int32 × Hp))) fun w40 h41 =>
        b1 ((if ((v1 >>> (v3 &&& 31)) &&& (1 : Int32)) = (0 : Int32) then
            if w40 = (0 : Int32) then
              some (v2, h41)
            else
              (getQ h41 (some a0) 5 9).bind fun x111 =>
              (rdI h41 x111 10 x15).bind fun x113 =>
              (getQ h41 (some a0) 5 9).bind fun x115 =>
              (rdI h41 x115 10 x11).bind fun x117 =>
              (getQ h41 (some a0) 5 2).bind fun x119 =>
              (rdI h41 x119 10 v3).bind fun x121 =>
              b1 ((if x113 ≤ (x117 + x121) then
                  some (v2, h41)
                else
                  (getQ h41 (some a0) 5 9).bind fun x136 =>
                  (getQ h41 (some a0) 5 9).bind fun x138 =>
                  (rdI h41 x138 10 x11).bind fun x140 =>
                  (getQ h41 (some a0) 5 2).bind fun x142 =>
                  (rdI h41 x142 10 v3).bind fun x144 =>
                  (wrI h41 x136 x15 (x140 + x144)).bind fun h146 =>
                  some (1, h146) : Option (Int32 × Hp))) fun w148 h149 =>
              (getQ h149 (some a0) 5 9).bind fun x151 =>
              (rdI h149 x151 10 x11).bind fun x153 =>
              (getQ h149 (some a0) 5 9).bind fun x155 =>
              (rdI h149 x155 10 x15).bind fun x157 =>
              (getQ h149 (some a0) 5 2).bind fun x159 =>
              (rdI h149 x159 10 v3).bind fun x161 =>
              if x153 ≤ (x157 - x161) then
                some (w148, h149)
              else
                (getQ h149 (some a0) 5 9).bind fun x164 =>
                (getQ h149 (some a0) 5 9).bind fun x166 =>
                (rdI h149 x166 10 x15).bind fun x168 =>
                (getQ h149 (some a0) 5 2).bind fun x170 =>
                (rdI h149 x170 10 v3).bind fun x172 =>
                (wrI h149 x164 x11 (x168 - x172)).bind fun h174 =>
                some (1, h174)
          else
            some (v2, h41) : Option (Int32 × Hp))) fun w176 h177 =>
        f_X6_lowerByBanks_L4 n a0 v1 w176 (v3 + 1) h177
def f_X6_lowerByBanks (a0 : Nat) (v1 : Int32) (h : Hp) : Option (Int32 × Hp) :=
  b1 (f_X6_lowerByBanks_L4 fu a0 v1 0 0 h) fun w179 h180 =>
  (zok w179).bind fun z181 =>
  some (w179, h180)
set_option maxHeartbeats 4000000 in
theorem tl_X6_lowerByBanks_4 (E : En) (d : Nat) {mc ms : Nat} {K : Option Vv → Hp → Prop} : ∀ (n : Nat) (a0 : Nat) (v1 : Int32) (v2 : Int32) (v3 : Int32) (h : Hp) (u2 : Int32) (hz : Hp), f_X6_lowerByBanks_L4 n a0 v1 v2 v3 h = some (u2, hz) → MW E m_X6_lowerByBanks (d + 0) mc ms 187 [none, none, some (vi u2), none, none, none, none] [] hz K → MW E m_X6_lowerByBanks (d + 0) mc ms 4 [some (vq (some a0)), some (vi v1), some (vi v2), some (vi v3), none, none, none] [] h K := by
  intro n
  induction n with
  | zero => intro a0 v1 v2 v3 h u2 hz hf; exact nomatch (show none = some _ from hf)
  | succ n ih =>
    intro a0 v1 v2 v3 h u2 hz hf hX187
    rw [f_X6_lowerByBanks_L4] at hf
    refine mw_iload_n (x := v3) dX6_lowerByBanks_4 rfl ?_
    refine mw_aload_n (x := (some a0)) dX6_lowerByBanks_5 rfl ?_
    obtain ⟨x1, e2, hf⟩ := ob hf
    refine ml_getI dX6_lowerByBanks_6 fl_RX6_47 rfl e2 ?_
    refine mw_icmp_ge (tgt := 187) dX6_lowerByBanks_9 rfl (fun c3 => ?_) (fun c3 => ?_)
    · rw [if_pos c3] at hf
      obtain ⟨rfl, rfl⟩ := y1 hf
      exact MW.sub (subL_n (subL_n (subL_s (subL_n (subL_n (subL_n (subL_n subL_nil))))))) hX187
    · rw [if_neg c3] at hf
      refine mw_iload_n (x := v3) dX6_lowerByBanks_12 rfl ?_
      refine mw_aload_n (x := (some a0)) dX6_lowerByBanks_13 rfl ?_
      obtain ⟨x4, e5, hf⟩ := ob hf
      refine ml_getQ dX6_lowerByBanks_14 fl_RX6_18 rfl e5 ?_
      obtain ⟨x6, e7, hf⟩ := ob hf
      refine ml_alen dX6_lowerByBanks_17 e7 (by decide) (by decide) ?_
      refine mw_icmp_ge (tgt := 187) dX6_lowerByBanks_18 rfl (fun c8 => ?_) (fun c8 => ?_)
      · rw [if_pos c8] at hf
        obtain ⟨rfl, rfl⟩ := y1 hf
        exact MW.sub (subL_n (subL_n (subL_s (subL_n (subL_n (subL_n (subL_n subL_nil))))))) hX187
      · rw [if_neg c8] at hf
        refine mw_aload_n (x := (some a0)) dX6_lowerByBanks_21 rfl ?_
        obtain ⟨x9, e10, hf⟩ := ob hf
        refine ml_getQ dX6_lowerByBanks_22 fl_RX6_9 rfl e10 ?_
        refine mw_iload_n (x := v3) dX6_lowerByBanks_25 rfl ?_
        obtain ⟨x11, e12, hf⟩ := ob hf
        refine ml_iald dX6_lowerByBanks_26 e12 ?_
        refine mw_istore dX6_lowerByBanks_27 (by decide) rfl ?_
        refine mw_aload_n (x := (some a0)) dX6_lowerByBanks_29 rfl ?_
        obtain ⟨x13, e14, hf⟩ := ob hf
        refine ml_getQ dX6_lowerByBanks_30 fl_RX6_15 rfl e14 ?_
        refine mw_iload_n (x := v3) dX6_lowerByBanks_33 rfl ?_
        obtain ⟨x15, e16, hf⟩ := ob hf
        refine ml_iald dX6_lowerByBanks_34 e16 ?_
        refine mw_istore dX6_lowerByBanks_35 (by decide) rfl ?_
        refine mw_iload (x := x11) dX6_lowerByBanks_37 rfl ?_
        obtain ⟨w40, h41, r42, hf⟩ := ob1 hf
        have J185 : MW E m_X6_lowerByBanks (d + 0) mc ms 72 [some (vq (some a0)), some (vi v1), some (vi v2), some (vi v3), some (vi x11), some (vi x15), none] [vi w40] h41 K := by
          refine mw_istore dX6_lowerByBanks_72 (by decide) rfl ?_
          refine mw_iload_n (x := v1) dX6_lowerByBanks_74 rfl ?_
          refine mw_iload_n (x := v3) dX6_lowerByBanks_75 rfl ?_
          refine mw_ishr dX6_lowerByBanks_76 ?_
          refine mw_iconst (v := 1) dX6_lowerByBanks_77 (by decide) ?_
          refine mw_iand dX6_lowerByBanks_78 ?_
          obtain ⟨w176, h177, r178, hf⟩ := ob1 hf
          have J186 : MW E m_X6_lowerByBanks (d + 0) mc ms 181 [some (vq (some a0)), some (vi v1), some (vi w176), some (vi v3), none, none, none] [] h177 K := by
            refine mw_iinc (x := v3) (v := v3 + 1) dX6_lowerByBanks_181 rfl rfl (by decide) rfl ?_
            refine mw_goto (tgt := 4) dX6_lowerByBanks_184 rfl ?_
            exact MW.sub (subL_s (subL_s (subL_s (subL_s (subL_n (subL_n (subL_n subL_nil))))))) (ih _ _ _ _ _ _ _ hf hX187)
          refine mw_if_ne (tgt := 181) dX6_lowerByBanks_79 rfl (fun c43 => ?_) (fun c43 => ?_)
          · rw [if_neg c43] at r178
            obtain ⟨rfl, rfl⟩ := y1 r178
            exact MW.sub (subL_s (subL_s (subL_s (subL_s (subL_n (subL_n (subL_n subL_nil))))))) J186
          · rw [if_pos c43] at r178
            refine mw_iload (x := w40) dX6_lowerByBanks_82 rfl ?_
            refine mw_if_eq (tgt := 181) dX6_lowerByBanks_84 rfl (fun c110 => ?_) (fun c110 => ?_)
            · rw [if_pos c110] at r178
              obtain ⟨rfl, rfl⟩ := y1 r178
              exact MW.sub (subL_s (subL_s (subL_s (subL_s (subL_n (subL_n (subL_n subL_nil))))))) J186
            · rw [if_neg c110] at r178
              refine mw_aload_n (x := (some a0)) dX6_lowerByBanks_87 rfl ?_
              obtain ⟨x111, e112, r178⟩ := ob r178
              refine ml_getQ dX6_lowerByBanks_88 fl_RX6_30 rfl e112 ?_
              refine mw_iload (x := x15) dX6_lowerByBanks_91 rfl ?_
              obtain ⟨x113, e114, r178⟩ := ob r178
              refine ml_iald dX6_lowerByBanks_93 e114 ?_
              refine mw_aload_n (x := (some a0)) dX6_lowerByBanks_94 rfl ?_
              obtain ⟨x115, e116, r178⟩ := ob r178
              refine ml_getQ dX6_lowerByBanks_95 fl_RX6_30 rfl e116 ?_
              refine mw_iload (x := x11) dX6_lowerByBanks_98 rfl ?_
              obtain ⟨x117, e118, r178⟩ := ob r178
              refine ml_iald dX6_lowerByBanks_100 e118 ?_
              refine mw_aload_n (x := (some a0)) dX6_lowerByBanks_101 rfl ?_
              obtain ⟨x119, e120, r178⟩ := ob r178
              refine ml_getQ dX6_lowerByBanks_102 fl_RX6_18 rfl e120 ?_
              refine mw_iload_n (x := v3) dX6_lowerByBanks_105 rfl ?_
              obtain ⟨x121, e122, r178⟩ := ob r178
              refine ml_iald dX6_lowerByBanks_106 e122 ?_
              refine mw_iadd dX6_lowerByBanks_107 ?_
              obtain ⟨w148, h149, r150, r178⟩ := ob1 r178
              have J187 : MW E m_X6_lowerByBanks (d + 0) mc ms 134 [some (vq (some a0)), some (vi v1), some (vi w148), some (vi v3), some (vi x11), some (vi x15), none] [] h149 K := by
                refine mw_aload_n (x := (some a0)) dX6_lowerByBanks_134 rfl ?_
                obtain ⟨x151, e152, r178⟩ := ob r178
                refine ml_getQ dX6_lowerByBanks_135 fl_RX6_30 rfl e152 ?_
                refine mw_iload (x := x11) dX6_lowerByBanks_138 rfl ?_
                obtain ⟨x153, e154, r178⟩ := ob r178
                refine ml_iald dX6_lowerByBanks_140 e154 ?_
                refine mw_aload_n (x := (some a0)) dX6_lowerByBanks_141 rfl ?_
                obtain ⟨x155, e156, r178⟩ := ob r178
                refine ml_getQ dX6_lowerByBanks_142 fl_RX6_30 rfl e156 ?_
                refine mw_iload (x := x15) dX6_lowerByBanks_145 rfl ?_
                obtain ⟨x157, e158, r178⟩ := ob r178
                refine ml_iald dX6_lowerByBanks_147 e158 ?_
                refine mw_aload_n (x := (some a0)) dX6_lowerByBanks_148 rfl ?_
                obtain ⟨x159, e160, r178⟩ := ob r178
                refine ml_getQ dX6_lowerByBanks_149 fl_RX6_18 rfl e160 ?_
                refine mw_iload_n (x := v3) dX6_lowerByBanks_152 rfl ?_
                obtain ⟨x161, e162, r178⟩ := ob r178
                refine ml_iald dX6_lowerByBanks_153 e162 ?_
                refine mw_isub dX6_lowerByBanks_154 ?_
                refine mw_icmp_le (tgt := 181) dX6_lowerByBanks_155 rfl (fun c163 => ?_) (fun c163 => ?_)
                · rw [if_pos c163] at r178
                  obtain ⟨rfl, rfl⟩ := y1 r178
                  exact MW.sub (subL_s (subL_s (subL_s (subL_s (subL_n (subL_n (subL_n subL_nil))))))) J186
                · rw [if_neg c163] at r178
                  refine mw_aload_n (x := (some a0)) dX6_lowerByBanks_158 rfl ?_
                  obtain ⟨x164, e165, r178⟩ := ob r178
                  refine ml_getQ dX6_lowerByBanks_159 fl_RX6_30 rfl e165 ?_
                  refine mw_iload (x := x11) dX6_lowerByBanks_162 rfl ?_
                  refine mw_aload_n (x := (some a0)) dX6_lowerByBanks_164 rfl ?_
                  obtain ⟨x166, e167, r178⟩ := ob r178
                  refine ml_getQ dX6_lowerByBanks_165 fl_RX6_30 rfl e167 ?_
                  refine mw_iload (x := x15) dX6_lowerByBanks_168 rfl ?_
                  obtain ⟨x168, e169, r178⟩ := ob r178
                  refine ml_iald dX6_lowerByBanks_170 e169 ?_
                  refine mw_aload_n (x := (some a0)) dX6_lowerByBanks_171 rfl ?_
                  obtain ⟨x170, e171, r178⟩ := ob r178
                  refine ml_getQ dX6_lowerByBanks_172 fl_RX6_18 rfl e171 ?_
                  refine mw_iload_n (x := v3) dX6_lowerByBanks_175 rfl ?_
                  obtain ⟨x172, e173, r178⟩ := ob r178
                  refine ml_iald dX6_lowerByBanks_176 e173 ?_
                  refine mw_isub dX6_lowerByBanks_177 ?_
                  obtain ⟨h174, e175, r178⟩ := ob r178
                  refine ml_iast dX6_lowerByBanks_178 e175 ?_
                  refine mw_iconst (v := 1) dX6_lowerByBanks_179 (by decide) ?_
                  refine mw_istore_n dX6_lowerByBanks_180 (by decide) rfl ?_
                  obtain ⟨rfl, rfl⟩ := y1 r178
                  exact MW.sub (subL_s (subL_s (subL_s (subL_s (subL_n (subL_n (subL_n subL_nil))))))) J186
              refine mw_icmp_le (tgt := 134) dX6_lowerByBanks_108 rfl (fun c123 => ?_) (fun c123 => ?_)
              · rw [if_pos c123] at r150
                obtain ⟨rfl, rfl⟩ := y1 r150
                exact MW.sub (subL_s (subL_s (subL_s (subL_s (subL_s (subL_s (subL_n subL_nil))))))) J187
              · rw [if_neg c123] at r150
                refine mw_aload_n (x := (some a0)) dX6_lowerByBanks_111 rfl ?_
                obtain ⟨x136, e137, r150⟩ := ob r150
                refine ml_getQ dX6_lowerByBanks_112 fl_RX6_30 rfl e137 ?_
                refine mw_iload (x := x15) dX6_lowerByBanks_115 rfl ?_
                refine mw_aload_n (x := (some a0)) dX6_lowerByBanks_117 rfl ?_
                obtain ⟨x138, e139, r150⟩ := ob r150
                refine ml_getQ dX6_lowerByBanks_118 fl_RX6_30 rfl e139 ?_
                refine mw_iload (x := x11) dX6_lowerByBanks_121 rfl ?_
                obtain ⟨x140, e141, r150⟩ := ob r150
                refine ml_iald dX6_lowerByBanks_123 e141 ?_
                refine mw_aload_n (x := (some a0)) dX6_lowerByBanks_124 rfl ?_
                obtain ⟨x142, e143, r150⟩ := ob r150
                refine ml_getQ dX6_lowerByBanks_125 fl_RX6_18 rfl e143 ?_
                refine mw_iload_n (x := v3) dX6_lowerByBanks_128 rfl ?_
                obtain ⟨x144, e145, r150⟩ := ob r150
                refine ml_iald dX6_lowerByBanks_129 e145 ?_
                refine mw_iadd dX6_lowerByBanks_130 ?_
                obtain ⟨h146, e147, r150⟩ := ob r150
                refine ml_iast dX6_lowerByBanks_131 e147 ?_
                refine mw_iconst (v := 1) dX6_lowerByBanks_132 (by decide) ?_
                refine mw_istore_n dX6_lowerByBanks_133 (by decide) rfl ?_
                obtain ⟨rfl, rfl⟩ := y1 r150
                exact MW.sub (subL_s (subL_s (subL_s (subL_s (subL_s (subL_s (subL_n subL_nil))))))) J187
        refine mw_if_lt (tgt := 71) dX6_lowerByBanks_39 rfl (fun c17 => ?_) (fun c17 => ?_)
        · rw [if_pos c17] at r42
          refine mw_iconst (v := 0) dX6_lowerByBanks_71 (by decide) ?_
          obtain ⟨rfl, rfl⟩ := y1 r42
          exact MW.sub (subL_s (subL_s (subL_s (subL_s (subL_s (subL_s (subL_n subL_nil))))))) J185
        · rw [if_neg c17] at r42
          refine mw_iload (x := x11) dX6_lowerByBanks_42 rfl ?_
          refine mw_aload_n (x := (some a0)) dX6_lowerByBanks_44 rfl ?_
          obtain ⟨x29, e30, r42⟩ := ob r42
          refine ml_getQ dX6_lowerByBanks_45 fl_RX6_30 rfl e30 ?_
          obtain ⟨x31, e32, r42⟩ := ob r42
          refine ml_alen dX6_lowerByBanks_48 e32 (by decide) (by decide) ?_
          refine mw_icmp_ge (tgt := 71) dX6_lowerByBanks_49 rfl (fun c33 => ?_) (fun c33 => ?_)
          · rw [if_pos c33] at r42
            refine mw_iconst (v := 0) dX6_lowerByBanks_71 (by decide) ?_
            obtain ⟨rfl, rfl⟩ := y1 r42
            exact MW.sub (subL_s (subL_s (subL_s (subL_s (subL_s (subL_s (subL_n subL_nil))))))) J185
          · rw [if_neg c33] at r42
            refine mw_iload (x := x15) dX6_lowerByBanks_52 rfl ?_
            refine mw_if_lt (tgt := 71) dX6_lowerByBanks_54 rfl (fun c34 => ?_) (fun c34 => ?_)
            · rw [if_pos c34] at r42
              refine mw_iconst (v := 0) dX6_lowerByBanks_71 (by decide) ?_
              obtain ⟨rfl, rfl⟩ := y1 r42
              exact MW.sub (subL_s (subL_s (subL_s (subL_s (subL_s (subL_s (subL_n subL_nil))))))) J185
            · rw [if_neg c34] at r42
              refine mw_iload (x := x15) dX6_lowerByBanks_57 rfl ?_
              refine mw_aload_n (x := (some a0)) dX6_lowerByBanks_59 rfl ?_
              obtain ⟨x35, e36, r42⟩ := ob r42
              refine ml_getQ dX6_lowerByBanks_60 fl_RX6_30 rfl e36 ?_
              obtain ⟨x37, e38, r42⟩ := ob r42
              refine ml_alen dX6_lowerByBanks_63 e38 (by decide) (by decide) ?_
              refine mw_icmp_ge (tgt := 71) dX6_lowerByBanks_64 rfl (fun c39 => ?_) (fun c39 => ?_)
              · rw [if_pos c39] at r42
                refine mw_iconst (v := 0) dX6_lowerByBanks_71 (by decide) ?_
                obtain ⟨rfl, rfl⟩ := y1 r42
                exact MW.sub (subL_s (subL_s (subL_s (subL_s (subL_s (subL_s (subL_n subL_nil))))))) J185
              · rw [if_neg c39] at r42
                refine mw_iconst (v := 1) dX6_lowerByBanks_67 (by decide) ?_
                refine mw_goto (tgt := 72) dX6_lowerByBanks_68 rfl ?_
                obtain ⟨rfl, rfl⟩ := y1 r42
                exact MW.sub (subL_s (subL_s (subL_s (subL_s (subL_s (subL_s (subL_n subL_nil))))))) J185
set_option maxHeartbeats 4000000 in
theorem t_X6_lowerByBanks (E : En) (d : Nat) {mc ms : Nat} {a0 : Nat} {v1 : Int32} {h h' : Hp} {r : Int32} {K : Option Vv → Hp → Prop} (hf : f_X6_lowerByBanks a0 v1 h = some (r, h')) (hk : K (some (vi r)) h') : MC E m_X6_lowerByBanks (d + 0) mc ms [vq (some a0), vi v1] h K := by
  unfold f_X6_lowerByBanks at hf
  show MW E m_X6_lowerByBanks (d + 0) mc ms 0 [some (vq (some a0)), some (vi v1), none, none, none, none, none] [] h K
  refine mw_iconst (v := 0) dX6_lowerByBanks_0 (by decide) ?_
  refine mw_istore_n dX6_lowerByBanks_1 (by decide) rfl ?_
  refine mw_iconst (v := 0) dX6_lowerByBanks_2 (by decide) ?_
  refine mw_istore_n dX6_lowerByBanks_3 (by decide) rfl ?_
  obtain ⟨w179, h180, e183, hf⟩ := ob1 hf
  refine MW.sub (subL_s (subL_s (subL_s (subL_s (subL_n (subL_n (subL_n subL_nil))))))) (tl_X6_lowerByBanks_4 E d _ _ _ _ _ _ _ _ e183 ?_)
  refine mw_iload_n (x := w179) dX6_lowerByBanks_187 rfl ?_
  obtain ⟨z181, e182, hf⟩ := ob hf
  obtain ⟨rfl, rfl⟩ := y1 hf
  exact mw_ireturn dX6_lowerByBanks_188 rfl (zok_of e182) hk
def f_X6_comesToRest_L2 : Nat → Nat → Int32 → Int32 → Hp → Option ((Hp) ⊕ (Hp))
  | 0, _, _, _, _ => none
  | n + 1, a0, v1, v2, h =>
    (getI h (some a0) 5 8).bind fun x1 =>
    if x1 < v2 then
      some (Sum.inr h)
    else
      (getQ h (some a0) 5 9).bind fun x4 =>
      (rdI h x4 10 0).bind fun x6 =>
      (getI h (some a0) 5 7).bind fun x8 =>
      if x6 < (-x8) then
        some (Sum.inr h)
      else
        (rc h (some a0) 5).bind fun g13 =>
        b1 (f_X6_lowerByGaps g13 h) fun x15 h11 =>
        (rc h11 (some a0) 5).bind fun g18 =>
        b1 (f_X6_lowerByBanks g18 v1 h11) fun x20 h16 =>
        if x20 = (0 : Int32) then
          if x15 = (0 : Int32) then
            some (Sum.inl h16)
          else
            f_X6_comesToRest_L2 n a0 v1 (v2 + 1) h16
        else
          f_X6_comesToRest_L2 n a0 v1 (v2 + 1) h16
def f_X6_comesToRest (a0 : Nat) (v1 : Int32) (h : Hp) : Option (Int32 × Hp) :=
  (f_X6_comesToRest_L2 fu a0 v1 0 h).bind (Sum.elim (fun h23 => some (1, h23)) (fun h24 => some (0, h24)))
set_option maxHeartbeats 4000000 in
theorem tl_X6_comesToRest_2 (E : En) (d : Nat) {mc ms : Nat} {K : Option Vv → Hp → Prop} : ∀ (n : Nat) (a0 : Nat) (v1 : Int32) (v2 : Int32) (h : Hp) (o : (Hp) ⊕ (Hp)), f_X6_comesToRest_L2 n a0 v1 v2 h = some o → (∀ (hz : Hp), o = Sum.inl hz → MW E m_X6_comesToRest (d + 1) mc ms 41 [none, none, none, none] [] hz K) → (∀ (hz : Hp), o = Sum.inr hz → MW E m_X6_comesToRest (d + 1) mc ms 49 [none, none, none, none] [] hz K) → MW E m_X6_comesToRest (d + 1) mc ms 2 [some (vq (some a0)), some (vi v1), some (vi v2), none] [] h K := by
  intro n
  induction n with
  | zero => intro a0 v1 v2 h o hf; exact nomatch (show none = some _ from hf)
  | succ n ih =>
    intro a0 v1 v2 h o hf hX41 hX49
    rw [f_X6_comesToRest_L2] at hf
    refine mw_iload_n (x := v2) dX6_comesToRest_2 rfl ?_
    refine mw_aload_n (x := (some a0)) dX6_comesToRest_3 rfl ?_
    obtain ⟨x1, e2, hf⟩ := ob hf
    refine ml_getI dX6_comesToRest_4 fl_RX6_103 rfl e2 ?_
    refine mw_icmp_gt (tgt := 49) dX6_comesToRest_7 rfl (fun c3 => ?_) (fun c3 => ?_)
    · rw [if_pos c3] at hf
      obtain rfl := y0 hf
      exact MW.sub (subL_n (subL_n (subL_n (subL_n subL_nil)))) (hX49 _ rfl)
    · rw [if_neg c3] at hf
      refine mw_aload_n (x := (some a0)) dX6_comesToRest_10 rfl ?_
      obtain ⟨x4, e5, hf⟩ := ob hf
      refine ml_getQ dX6_comesToRest_11 fl_RX6_30 rfl e5 ?_
      refine mw_iconst (v := 0) dX6_comesToRest_14 (by decide) ?_
      obtain ⟨x6, e7, hf⟩ := ob hf
      refine ml_iald dX6_comesToRest_15 e7 ?_
      refine mw_aload_n (x := (some a0)) dX6_comesToRest_16 rfl ?_
      obtain ⟨x8, e9, hf⟩ := ob hf
      refine ml_getI dX6_comesToRest_17 fl_RX6_106 rfl e9 ?_
      refine mw_ineg dX6_comesToRest_20 ?_
      refine mw_icmp_lt (tgt := 49) dX6_comesToRest_21 rfl (fun c10 => ?_) (fun c10 => ?_)
      · rw [if_pos c10] at hf
        obtain rfl := y0 hf
        exact MW.sub (subL_n (subL_n (subL_n (subL_n subL_nil)))) (hX49 _ rfl)
      · rw [if_neg c10] at hf
        refine mw_aload_n (x := (some a0)) dX6_comesToRest_24 rfl ?_
        obtain ⟨g13, e14, hf⟩ := ob hf
        obtain ⟨x15, h11, e12, hf⟩ := ob1 hf
        refine ml_callV (ci := 5) (mc' := 0) (ms' := 0) [] dX6_comesToRest_25 mk_X6_lowerByGaps lk_RX6_127 im_X6_lowerByGaps se_X6_lowerByGaps (by decide) e14 rfl (Nat.le_of_ble_eq_true rfl) (Nat.le_of_ble_eq_true rfl) (t_X6_lowerByGaps E _ e12 isR_rfl) ?_
        refine mw_istore_n dX6_comesToRest_28 (by decide) rfl ?_
        refine mw_aload_n (x := (some a0)) dX6_comesToRest_29 rfl ?_
        refine mw_iload_n (x := v1) dX6_comesToRest_30 rfl ?_
        obtain ⟨g18, e19, hf⟩ := ob hf
        obtain ⟨x20, h16, e17, hf⟩ := ob1 hf
        refine ml_callV (ci := 5) (mc' := 0) (ms' := 0) [vi v1] dX6_comesToRest_31 mk_X6_lowerByBanks lk_RX6_131 im_X6_lowerByBanks se_X6_lowerByBanks (by decide) e19 rfl (Nat.le_of_ble_eq_true rfl) (Nat.le_of_ble_eq_true rfl) (t_X6_lowerByBanks E _ e17 isR_rfl) ?_
        refine mw_if_ne (tgt := 43) dX6_comesToRest_34 rfl (fun c21 => ?_) (fun c21 => ?_)
        · rw [if_neg c21] at hf
          refine mw_iinc (x := v2) (v := v2 + 1) dX6_comesToRest_43 rfl rfl (by decide) rfl ?_
          refine mw_goto (tgt := 2) dX6_comesToRest_46 rfl ?_
          exact MW.sub (subL_s (subL_s (subL_s (subL_n subL_nil)))) (ih _ _ _ _ _ hf hX41 hX49)
        · rw [if_pos c21] at hf
          refine mw_iload_n (x := x15) dX6_comesToRest_37 rfl ?_
          refine mw_if_ne (tgt := 43) dX6_comesToRest_38 rfl (fun c22 => ?_) (fun c22 => ?_)
          · rw [if_neg c22] at hf
            refine mw_iinc (x := v2) (v := v2 + 1) dX6_comesToRest_43 rfl rfl (by decide) rfl ?_
            refine mw_goto (tgt := 2) dX6_comesToRest_46 rfl ?_
            exact MW.sub (subL_s (subL_s (subL_s (subL_n subL_nil)))) (ih _ _ _ _ _ hf hX41 hX49)
          · rw [if_pos c22] at hf
            obtain rfl := y0 hf
            exact MW.sub (subL_n (subL_n (subL_n (subL_n subL_nil)))) (hX41 _ rfl)
set_option maxHeartbeats 4000000 in
theorem t_X6_comesToRest (E : En) (d : Nat) {mc ms : Nat} {a0 : Nat} {v1 : Int32} {h h' : Hp} {r : Int32} {K : Option Vv → Hp → Prop} (hf : f_X6_comesToRest a0 v1 h = some (r, h')) (hk : K (some (vi r)) h') : MC E m_X6_comesToRest (d + 1) mc ms [vq (some a0), vi v1] h K := by
  unfold f_X6_comesToRest at hf
  show MW E m_X6_comesToRest (d + 1) mc ms 0 [some (vq (some a0)), some (vi v1), none, none] [] h K
  refine mw_iconst (v := 0) dX6_comesToRest_0 (by decide) ?_
  refine mw_istore_n dX6_comesToRest_1 (by decide) rfl ?_
  obtain ⟨o26, e25, hf⟩ := ob hf
  rcases o26 with h23 | h24
  · have HX : MW E m_X6_comesToRest (d + 1) mc ms 41 [none, none, none, none] [] h23 K := by
      refine mw_iconst (v := 1) dX6_comesToRest_41 (by decide) ?_
      obtain ⟨rfl, rfl⟩ := y1 hf
      exact mw_ireturn dX6_comesToRest_42 rfl rfl hk
    exact MW.sub (subL_s (subL_s (subL_s (subL_n subL_nil)))) (tl_X6_comesToRest_2 E d _ _ _ _ _ _ e25 (fun _ q => by cases q; exact HX) (fun _ q => by cases q))
  · have HX : MW E m_X6_comesToRest (d + 1) mc ms 49 [none, none, none, none] [] h24 K := by
      refine mw_iconst (v := 0) dX6_comesToRest_49 (by decide) ?_
      obtain ⟨rfl, rfl⟩ := y1 hf
      exact mw_ireturn dX6_comesToRest_50 rfl rfl hk
    exact MW.sub (subL_s (subL_s (subL_s (subL_n subL_nil)))) (tl_X6_comesToRest_2 E d _ _ _ _ _ _ e25 (fun _ q => by cases q) (fun _ q => by cases q; exact HX))
def f_X6_boundGaps_L2 : Nat → Nat → Int32 → Int32 → Hp → Option ((Hp))
  | 0, _, _, _, _ => none
  | n + 1, a0, v1, v2, h =>
    (getI h (some a0) 5 8).bind fun x1 =>
    if x1 ≤ v2 then
      some h
    else
      if (20 : Int32) ≤ v2 then
        some h
      else
        (rc h (some a0) 5).bind fun g7 =>
        (f_X6_reachFrom g7 v2 h).bind fun h5 =>
        (rc h5 (some a0) 5).bind fun g11 =>
        b1 (f_X6_comesToRest g11 v1 h5) fun x13 h9 =>
        (getQ h9 (some a0) 5 11).bind fun x14 =>
        (getQ h9 (some a0) 5 9).bind fun x16 =>
        b1 (f_X8_at x16 (v2 + (1 : Int32)) h9) fun x20 h18 =>
        (wrI h18 x14 v2 x20).bind fun h21 =>
        Option.bind ((if v2 ≤ (0 : Int32) then
            some h21
          else
            (getQ h21 (some a0) 5 10).bind fun x32 =>
            (getQ h21 (some a0) 5 9).bind fun x34 =>
            (rdI h21 x34 10 (v2 - (1 : Int32))).bind fun x36 =>
            (wrI h21 x32 (v2 - (1 : Int32)) (-x36)).bind fun h38 =>
            some h38 : Option (Hp))) fun h40 =>
        f_X6_boundGaps_L2 n a0 v1 (v2 + 1) h40
def f_X6_boundGaps (a0 : Nat) (v1 : Int32) (h : Hp) : Option (Hp) :=
  (f_X6_boundGaps_L2 fu a0 v1 0 h).bind fun h42 =>
  some h42
set_option maxHeartbeats 4000000 in
theorem tl_X6_boundGaps_2 (E : En) (d : Nat) {mc ms : Nat} {K : Option Vv → Hp → Prop} : ∀ (n : Nat) (a0 : Nat) (v1 : Int32) (v2 : Int32) (h : Hp) (hz : Hp), f_X6_boundGaps_L2 n a0 v1 v2 h = some hz → MW E m_X6_boundGaps (d + 2) mc ms 70 [none, none, none] [] hz K → MW E m_X6_boundGaps (d + 2) mc ms 2 [some (vq (some a0)), some (vi v1), some (vi v2)] [] h K := by
  intro n
  induction n with
  | zero => intro a0 v1 v2 h hz hf; exact nomatch (show none = some _ from hf)
  | succ n ih =>
    intro a0 v1 v2 h hz hf hX70
    rw [f_X6_boundGaps_L2] at hf
    refine mw_iload_n (x := v2) dX6_boundGaps_2 rfl ?_
    refine mw_aload_n (x := (some a0)) dX6_boundGaps_3 rfl ?_
    obtain ⟨x1, e2, hf⟩ := ob hf
    refine ml_getI dX6_boundGaps_4 fl_RX6_103 rfl e2 ?_
    refine mw_icmp_ge (tgt := 70) dX6_boundGaps_7 rfl (fun c3 => ?_) (fun c3 => ?_)
    · rw [if_pos c3] at hf
      obtain rfl := y0 hf
      exact MW.sub (subL_n (subL_n (subL_n subL_nil))) hX70
    · rw [if_neg c3] at hf
      refine mw_iload_n (x := v2) dX6_boundGaps_10 rfl ?_
      refine mw_bipush (v := 20) dX6_boundGaps_11 (by decide) ?_
      refine mw_icmp_ge (tgt := 70) dX6_boundGaps_13 rfl (fun c4 => ?_) (fun c4 => ?_)
      · rw [if_pos c4] at hf
        obtain rfl := y0 hf
        exact MW.sub (subL_n (subL_n (subL_n subL_nil))) hX70
      · rw [if_neg c4] at hf
        refine mw_aload_n (x := (some a0)) dX6_boundGaps_16 rfl ?_
        refine mw_iload_n (x := v2) dX6_boundGaps_17 rfl ?_
        obtain ⟨g7, e8, hf⟩ := ob hf
        obtain ⟨h5, e6, hf⟩ := ob hf
        refine ml_callV (ci := 5) (mc' := 0) (ms' := 0) [vi v2] dX6_boundGaps_18 mk_X6_reachFrom lk_RX6_134 im_X6_reachFrom se_X6_reachFrom (by decide) e8 rfl (Nat.le_of_ble_eq_true rfl) (Nat.le_of_ble_eq_true rfl) (t_X6_reachFrom E _ e6 isR_rfl) ?_
        refine mw_aload_n (x := (some a0)) dX6_boundGaps_21 rfl ?_
        refine mw_iload_n (x := v1) dX6_boundGaps_22 rfl ?_
        obtain ⟨g11, e12, hf⟩ := ob hf
        obtain ⟨x13, h9, e10, hf⟩ := ob1 hf
        refine ml_callV (ci := 5) (mc' := 0) (ms' := 0) [vi v1] dX6_boundGaps_23 mk_X6_comesToRest lk_RX6_124 im_X6_comesToRest se_X6_comesToRest (by decide) e12 rfl (Nat.le_of_ble_eq_true rfl) (Nat.le_of_ble_eq_true rfl) (t_X6_comesToRest E _ e10 isR_rfl) ?_
        refine mw_popi dX6_boundGaps_26 ?_
        refine mw_aload_n (x := (some a0)) dX6_boundGaps_27 rfl ?_
        obtain ⟨x14, e15, hf⟩ := ob hf
        refine ml_getQ dX6_boundGaps_28 fl_RX6_36 rfl e15 ?_
        refine mw_iload_n (x := v2) dX6_boundGaps_31 rfl ?_
        refine mw_aload_n (x := (some a0)) dX6_boundGaps_32 rfl ?_
        obtain ⟨x16, e17, hf⟩ := ob hf
        refine ml_getQ dX6_boundGaps_33 fl_RX6_30 rfl e17 ?_
        refine mw_iload_n (x := v2) dX6_boundGaps_36 rfl ?_
        refine mw_iconst (v := 1) dX6_boundGaps_37 (by decide) ?_
        refine mw_iadd dX6_boundGaps_38 ?_
        obtain ⟨x20, h18, e19, hf⟩ := ob1 hf
        refine ml_callSN (mc' := 0) (ms' := 0) [vq x16, vi (v2 + (1 : Int32))] dX6_boundGaps_39 mk_X8_at lk_RX6_51 st_X8_at rfl (Nat.le_of_ble_eq_true rfl) (Nat.le_of_ble_eq_true rfl) (t_X8_at E _ e19 isR_rfl) ?_
        obtain ⟨h21, e22, hf⟩ := ob hf
        refine ml_iast dX6_boundGaps_42 e22 ?_
        refine mw_iload_n (x := v2) dX6_boundGaps_43 rfl ?_
        obtain ⟨h40, r41, hf⟩ := ob hf
        have J45 : MW E m_X6_boundGaps (d + 2) mc ms 64 [some (vq (some a0)), some (vi v1), some (vi v2)] [] h40 K := by
          refine mw_iinc (x := v2) (v := v2 + 1) dX6_boundGaps_64 rfl rfl (by decide) rfl ?_
          refine mw_goto (tgt := 2) dX6_boundGaps_67 rfl ?_
          exact MW.sub (subL_s (subL_s (subL_s subL_nil))) (ih _ _ _ _ _ hf hX70)
        refine mw_if_le (tgt := 64) dX6_boundGaps_44 rfl (fun c23 => ?_) (fun c23 => ?_)
        · rw [if_pos c23] at r41
          obtain rfl := y0 r41
          exact MW.sub (subL_s (subL_s (subL_s subL_nil))) J45
        · rw [if_neg c23] at r41
          refine mw_aload_n (x := (some a0)) dX6_boundGaps_47 rfl ?_
          obtain ⟨x32, e33, r41⟩ := ob r41
          refine ml_getQ dX6_boundGaps_48 fl_RX6_33 rfl e33 ?_
          refine mw_iload_n (x := v2) dX6_boundGaps_51 rfl ?_
          refine mw_iconst (v := 1) dX6_boundGaps_52 (by decide) ?_
          refine mw_isub dX6_boundGaps_53 ?_
          refine mw_aload_n (x := (some a0)) dX6_boundGaps_54 rfl ?_
          obtain ⟨x34, e35, r41⟩ := ob r41
          refine ml_getQ dX6_boundGaps_55 fl_RX6_30 rfl e35 ?_
          refine mw_iload_n (x := v2) dX6_boundGaps_58 rfl ?_
          refine mw_iconst (v := 1) dX6_boundGaps_59 (by decide) ?_
          refine mw_isub dX6_boundGaps_60 ?_
          obtain ⟨x36, e37, r41⟩ := ob r41
          refine ml_iald dX6_boundGaps_61 e37 ?_
          refine mw_ineg dX6_boundGaps_62 ?_
          obtain ⟨h38, e39, r41⟩ := ob r41
          refine ml_iast dX6_boundGaps_63 e39 ?_
          obtain rfl := y0 r41
          exact MW.sub (subL_s (subL_s (subL_s subL_nil))) J45
set_option maxHeartbeats 4000000 in
theorem t_X6_boundGaps (E : En) (d : Nat) {mc ms : Nat} {a0 : Nat} {v1 : Int32} {h h' : Hp} {K : Option Vv → Hp → Prop} (hf : f_X6_boundGaps a0 v1 h = some h') (hk : K none h') : MC E m_X6_boundGaps (d + 2) mc ms [vq (some a0), vi v1] h K := by
  unfold f_X6_boundGaps at hf
  show MW E m_X6_boundGaps (d + 2) mc ms 0 [some (vq (some a0)), some (vi v1), none] [] h K
  refine mw_iconst (v := 0) dX6_boundGaps_0 (by decide) ?_
  refine mw_istore_n dX6_boundGaps_1 (by decide) rfl ?_
  obtain ⟨h42, e43, hf⟩ := ob hf
  refine MW.sub (subL_s (subL_s (subL_s subL_nil))) (tl_X6_boundGaps_2 E d _ _ _ _ _ _ e43 ?_)
  obtain rfl := y0 hf
  exact mw_return dX6_boundGaps_70 rfl hk
def f_X6_gather_L18 : Nat → Nat → Int32 → Option Nat → Hp → Option ((Hp))
  | 0, _, _, _, _ => none
  | n + 1, a0, v2, q3, h =>
    if q3 = none then
      some h
    else
      (getI h q3 1 1).bind fun x10 =>
      Option.bind ((if x10 = (2 : Int32) then
          (rc h q3 1).bind fun g31 =>
          b1 (f_X1_countsAt g31 v2 h) fun x33 h29 =>
          if x33 = (0 : Int32) then
            some h29
          else
            (getI h29 q3 1 2).bind fun x35 =>
            (getI h29 q3 1 3).bind fun x37 =>
            (getI h29 q3 1 4).bind fun x39 =>
            (rc h29 (some a0) 5).bind fun g43 =>
            (f_X6_addBank g43 x35 (x37 + (1 : Int32)) x39 h29).bind fun h41 =>
            some h41
        else
          some h : Option (Hp))) fun h45 =>
      (getQ h45 q3 1 8).bind fun x47 =>
      f_X6_gather_L18 n a0 v2 x47 h45
def f_X6_gather (a0 : Nat) (q1 : Option Nat) (v2 : Int32) (h : Hp) : Option (Hp) :=
  (putI h (some a0) 5 3 0).bind fun h1 =>
  (getQ h1 (some a0) 5 4).bind fun x3 =>
  (f_J7_fill_53178 x3 ((-1) : Int32) h1).bind fun h5 =>
  (getQ h5 q1 6 2).bind fun x7 =>
  (f_X6_gather_L18 fu a0 v2 x7 h5).bind fun h49 =>
  some h49
set_option maxHeartbeats 4000000 in
theorem tl_X6_gather_18 (E : En) (d : Nat) {mc ms : Nat} {K : Option Vv → Hp → Prop} : ∀ (n : Nat) (a0 : Nat) (v2 : Int32) (q3 : Option Nat) (h : Hp) (hz : Hp), f_X6_gather_L18 n a0 v2 q3 h = some hz → MW E m_X6_gather (d + 1) mc ms 64 [none, none, none, none] [] hz K → MW E m_X6_gather (d + 1) mc ms 18 [some (vq (some a0)), none, some (vi v2), some (vq q3)] [] h K := by
  intro n
  induction n with
  | zero => intro a0 v2 q3 h hz hf; exact nomatch (show none = some _ from hf)
  | succ n ih =>
    intro a0 v2 q3 h hz hf hX64
    rw [f_X6_gather_L18] at hf
    refine mw_aload_n (x := q3) dX6_gather_18 rfl ?_
    refine mw_ifnull (tgt := 64) dX6_gather_19 rfl (fun c9 => ?_) (fun c9 => ?_)
    · rw [if_pos c9] at hf
      obtain rfl := y0 hf
      exact MW.sub (subL_n (subL_n (subL_n (subL_n subL_nil)))) hX64
    · rw [if_neg c9] at hf
      refine mw_aload_n (x := q3) dX6_gather_22 rfl ?_
      obtain ⟨x10, e11, hf⟩ := ob hf
      refine ml_getI dX6_gather_23 fl_RX6_78 rfl e11 ?_
      refine mw_iconst (v := 2) dX6_gather_26 (by decide) ?_
      obtain ⟨h45, r46, hf⟩ := ob hf
      have J52 : MW E m_X6_gather (d + 1) mc ms 56 [some (vq (some a0)), none, some (vi v2), some (vq q3)] [] h45 K := by
        refine mw_aload_n (x := q3) dX6_gather_56 rfl ?_
        obtain ⟨x47, e48, hf⟩ := ob hf
        refine ml_getQ dX6_gather_57 fl_RX6_100 rfl e48 ?_
        refine mw_astore_n dX6_gather_60 (by decide) rfl ?_
        refine mw_goto (tgt := 18) dX6_gather_61 rfl ?_
        exact MW.sub (subL_s (subL_n (subL_s (subL_s subL_nil)))) (ih _ _ _ _ _ hf hX64)
      refine mw_icmp_ne (tgt := 56) dX6_gather_27 rfl (fun c12 => ?_) (fun c12 => ?_)
      · rw [if_neg c12] at r46
        obtain rfl := y0 r46
        exact MW.sub (subL_s (subL_n (subL_s (subL_s subL_nil)))) J52
      · rw [if_pos c12] at r46
        refine mw_aload_n (x := q3) dX6_gather_30 rfl ?_
        refine mw_iload_n (x := v2) dX6_gather_31 rfl ?_
        obtain ⟨g31, e32, r46⟩ := ob r46
        obtain ⟨x33, h29, e30, r46⟩ := ob1 r46
        refine ml_callV (ci := 1) (mc' := 0) (ms' := 0) [vi v2] dX6_gather_32 mk_X1_countsAt lk_RX6_83 im_X1_countsAt se_X1_countsAt (by decide) e32 rfl (Nat.le_of_ble_eq_true rfl) (Nat.le_of_ble_eq_true rfl) (t_X1_countsAt E _ e30 isR_rfl) ?_
        refine mw_if_eq (tgt := 56) dX6_gather_35 rfl (fun c34 => ?_) (fun c34 => ?_)
        · rw [if_pos c34] at r46
          obtain rfl := y0 r46
          exact MW.sub (subL_s (subL_n (subL_s (subL_s subL_nil)))) J52
        · rw [if_neg c34] at r46
          refine mw_aload_n (x := (some a0)) dX6_gather_38 rfl ?_
          refine mw_aload_n (x := q3) dX6_gather_39 rfl ?_
          obtain ⟨x35, e36, r46⟩ := ob r46
          refine ml_getI dX6_gather_40 fl_RX6_87 rfl e36 ?_
          refine mw_aload_n (x := q3) dX6_gather_43 rfl ?_
          obtain ⟨x37, e38, r46⟩ := ob r46
          refine ml_getI dX6_gather_44 fl_RX6_90 rfl e38 ?_
          refine mw_iconst (v := 1) dX6_gather_47 (by decide) ?_
          refine mw_iadd dX6_gather_48 ?_
          refine mw_aload_n (x := q3) dX6_gather_49 rfl ?_
          obtain ⟨x39, e40, r46⟩ := ob r46
          refine ml_getI dX6_gather_50 fl_RX6_93 rfl e40 ?_
          obtain ⟨g43, e44, r46⟩ := ob r46
          obtain ⟨h41, e42, r46⟩ := ob r46
          refine ml_callV (ci := 5) (mc' := 0) (ms' := 0) [vi x35, vi (x37 + (1 : Int32)), vi x39] dX6_gather_53 mk_X6_addBank lk_RX6_96 im_X6_addBank se_X6_addBank (by decide) e44 rfl (Nat.le_of_ble_eq_true rfl) (Nat.le_of_ble_eq_true rfl) (t_X6_addBank E _ e42 isR_rfl) ?_
          obtain rfl := y0 r46
          exact MW.sub (subL_s (subL_n (subL_s (subL_s subL_nil)))) J52
set_option maxHeartbeats 4000000 in
theorem t_X6_gather (E : En) (d : Nat) {mc ms : Nat} {a0 : Nat} {q1 : Option Nat} {v2 : Int32} {h h' : Hp} {K : Option Vv → Hp → Prop} (hf : f_X6_gather a0 q1 v2 h = some h') (hk : K none h') : MC E m_X6_gather (d + 1) mc ms [vq (some a0), vq q1, vi v2] h K := by
  unfold f_X6_gather at hf
  show MW E m_X6_gather (d + 1) mc ms 0 [some (vq (some a0)), some (vq q1), some (vi v2), none] [] h K
  refine mw_aload_n (x := (some a0)) dX6_gather_0 rfl ?_
  refine mw_iconst (v := 0) dX6_gather_1 (by decide) ?_
  obtain ⟨h1, e2, hf⟩ := ob hf
  refine ml_putI dX6_gather_2 fl_RX6_47 (Or.inl rfl) rfl rfl e2 ?_
  refine mw_aload_n (x := (some a0)) dX6_gather_5 rfl ?_
  obtain ⟨x3, e4, hf⟩ := ob hf
  refine ml_getQ dX6_gather_6 fl_RX6_21 rfl e4 ?_
  refine mw_iconst (v := (-1)) dX6_gather_9 (by decide) ?_
  obtain ⟨h5, e6, hf⟩ := ob hf
  refine ml_callS (mc' := 0) (ms' := 0) [vq x3, vi ((-1) : Int32)] dX6_gather_10 mk_J7_fill_53178 lk_RX6_66 st_J7_fill_53178 rfl (Nat.le_of_ble_eq_true rfl) (Nat.le_of_ble_eq_true rfl) (t_J7_fill_53178 E _ e6 isR_rfl) ?_
  refine mw_aload_n (x := q1) dX6_gather_13 rfl ?_
  obtain ⟨x7, e8, hf⟩ := ob hf
  refine ml_getQ dX6_gather_14 fl_RX6_72 rfl e8 ?_
  refine mw_astore_n dX6_gather_17 (by decide) rfl ?_
  obtain ⟨h49, e50, hf⟩ := ob hf
  refine MW.sub (subL_s (subL_n (subL_s (subL_s subL_nil)))) (tl_X6_gather_18 E d _ _ _ _ _ _ e50 ?_)
  obtain rfl := y0 hf
  exact mw_return dX6_gather_64 rfl hk
def f_X6_hopelessBanks_L31 : Nat → Nat → Int32 → Int32 → Int32 → Int32 → Hp → Option ((Int32 × Hp))
  | 0, _, _, _, _, _, _ => none
  | n + 1, a0, v1, v2, v3, v4, h =>
    (getQ h (some a0) 5 1).bind fun x13 =>
    (rdI h x13 10 v2).bind fun x15 =>
    if x15 ≤ v4 then
      some (v3, h)
    else
      (getQ h (some a0) 5 6).bind fun x18 =>
      b1 (f_X8_at x18 v4 h) fun x22 h20 =>
      f_X6_hopelessBanks_L31 n a0 v1 v2 (v3 + x22) (v4 + 1) h20
def f_X6_hopelessBanks_L4 : Nat → Nat → Int32 → Int32 → Hp → Option ((Int32 × Hp))
  | 0, _, _, _, _ => none
  | n + 1, a0, v1, v2, h =>
    (getI h (some a0) 5 3).bind fun x1 =>
    if x1 ≤ v2 then
      some (v1, h)
    else
      (getQ h (some a0) 5 2).bind fun x4 =>
      (aln h x4 10).bind fun x6 =>
      if x6 ≤ v2 then
        some (v1, h)
      else
        (getQ h (some a0) 5 0).bind fun x9 =>
        (rdI h x9 10 v2).bind fun x11 =>
        b1 (f_X6_hopelessBanks_L31 fu a0 v1 v2 0 x11 h) fun w23 h24 =>
        (getQ h24 (some a0) 5 2).bind fun x25 =>
        (rdI h24 x25 10 v2).bind fun x27 =>
        b1 ((if x27 < (0 : Int32) then
            some ((v1 ||| ((1 : Int32) <<< (v2 &&& 31))), h24)
          else
            (getQ h24 (some a0) 5 2).bind fun x35 =>
            (rdI h24 x35 10 v2).bind fun x37 =>
            if x37 ≤ w23 then
              some (v1, h24)
            else
              some ((v1 ||| ((1 : Int32) <<< (v2 &&& 31))), h24) : Option (Int32 × Hp))) fun w40 h41 =>
        f_X6_hopelessBanks_L4 n a0 w40 (v2 + 1) h41
def f_X6_hopelessBanks (a0 : Nat) (h : Hp) : Option (Int32 × Hp) :=
  b1 (f_X6_hopelessBanks_L4 fu a0 0 0 h) fun w45 h46 =>
  some (w45, h46)
set_option maxHeartbeats 4000000 in
theorem tl_X6_hopelessBanks_31 (E : En) (d : Nat) {mc ms : Nat} {K : Option Vv → Hp → Prop} : ∀ (n : Nat) (a0 : Nat) (v1 : Int32) (v2 : Int32) (v3 : Int32) (v4 : Int32) (h : Hp) (u3 : Int32) (hz : Hp), f_X6_hopelessBanks_L31 n a0 v1 v2 v3 v4 h = some (u3, hz) → MW E m_X6_hopelessBanks (d + 1) mc ms 60 [some (vq (some a0)), some (vi v1), some (vi v2), some (vi u3), none] [] hz K → MW E m_X6_hopelessBanks (d + 1) mc ms 31 [some (vq (some a0)), some (vi v1), some (vi v2), some (vi v3), some (vi v4)] [] h K := by
  intro n
  induction n with
  | zero => intro a0 v1 v2 v3 v4 h u3 hz hf; exact nomatch (show none = some _ from hf)
  | succ n ih =>
    intro a0 v1 v2 v3 v4 h u3 hz hf hX60
    rw [f_X6_hopelessBanks_L31] at hf
    refine mw_iload (x := v4) dX6_hopelessBanks_31 rfl ?_
    refine mw_aload_n (x := (some a0)) dX6_hopelessBanks_33 rfl ?_
    obtain ⟨x13, e14, hf⟩ := ob hf
    refine ml_getQ dX6_hopelessBanks_34 fl_RX6_15 rfl e14 ?_
    refine mw_iload_n (x := v2) dX6_hopelessBanks_37 rfl ?_
    obtain ⟨x15, e16, hf⟩ := ob hf
    refine ml_iald dX6_hopelessBanks_38 e16 ?_
    refine mw_icmp_ge (tgt := 60) dX6_hopelessBanks_39 rfl (fun c17 => ?_) (fun c17 => ?_)
    · rw [if_pos c17] at hf
      obtain ⟨rfl, rfl⟩ := y1 hf
      exact MW.sub (subL_s (subL_s (subL_s (subL_s (subL_n subL_nil))))) hX60
    · rw [if_neg c17] at hf
      refine mw_iload_n (x := v3) dX6_hopelessBanks_42 rfl ?_
      refine mw_aload_n (x := (some a0)) dX6_hopelessBanks_43 rfl ?_
      obtain ⟨x18, e19, hf⟩ := ob hf
      refine ml_getQ dX6_hopelessBanks_44 fl_RX6_27 rfl e19 ?_
      refine mw_iload (x := v4) dX6_hopelessBanks_47 rfl ?_
      obtain ⟨x22, h20, e21, hf⟩ := ob1 hf
      refine ml_callSN (mc' := 0) (ms' := 0) [vq x18, vi v4] dX6_hopelessBanks_49 mk_X8_at lk_RX6_51 st_X8_at rfl (Nat.le_of_ble_eq_true rfl) (Nat.le_of_ble_eq_true rfl) (t_X8_at E _ e21 isR_rfl) ?_
      refine mw_iadd dX6_hopelessBanks_52 ?_
      refine mw_istore_n dX6_hopelessBanks_53 (by decide) rfl ?_
      refine mw_iinc (x := v4) (v := v4 + 1) dX6_hopelessBanks_54 rfl rfl (by decide) rfl ?_
      refine mw_goto (tgt := 31) dX6_hopelessBanks_57 rfl ?_
      exact MW.sub (subL_s (subL_s (subL_s (subL_s (subL_s subL_nil))))) (ih _ _ _ _ _ _ _ _ hf hX60)
set_option maxHeartbeats 4000000 in
theorem tl_X6_hopelessBanks_4 (E : En) (d : Nat) {mc ms : Nat} {K : Option Vv → Hp → Prop} : ∀ (n : Nat) (a0 : Nat) (v1 : Int32) (v2 : Int32) (h : Hp) (u1 : Int32) (hz : Hp), f_X6_hopelessBanks_L4 n a0 v1 v2 h = some (u1, hz) → MW E m_X6_hopelessBanks (d + 1) mc ms 91 [none, some (vi u1), none, none, none] [] hz K → MW E m_X6_hopelessBanks (d + 1) mc ms 4 [some (vq (some a0)), some (vi v1), some (vi v2), none, none] [] h K := by
  intro n
  induction n with
  | zero => intro a0 v1 v2 h u1 hz hf; exact nomatch (show none = some _ from hf)
  | succ n ih =>
    intro a0 v1 v2 h u1 hz hf hX91
    rw [f_X6_hopelessBanks_L4] at hf
    refine mw_iload_n (x := v2) dX6_hopelessBanks_4 rfl ?_
    refine mw_aload_n (x := (some a0)) dX6_hopelessBanks_5 rfl ?_
    obtain ⟨x1, e2, hf⟩ := ob hf
    refine ml_getI dX6_hopelessBanks_6 fl_RX6_47 rfl e2 ?_
    refine mw_icmp_ge (tgt := 91) dX6_hopelessBanks_9 rfl (fun c3 => ?_) (fun c3 => ?_)
    · rw [if_pos c3] at hf
      obtain ⟨rfl, rfl⟩ := y1 hf
      exact MW.sub (subL_n (subL_s (subL_n (subL_n (subL_n subL_nil))))) hX91
    · rw [if_neg c3] at hf
      refine mw_iload_n (x := v2) dX6_hopelessBanks_12 rfl ?_
      refine mw_aload_n (x := (some a0)) dX6_hopelessBanks_13 rfl ?_
      obtain ⟨x4, e5, hf⟩ := ob hf
      refine ml_getQ dX6_hopelessBanks_14 fl_RX6_18 rfl e5 ?_
      obtain ⟨x6, e7, hf⟩ := ob hf
      refine ml_alen dX6_hopelessBanks_17 e7 (by decide) (by decide) ?_
      refine mw_icmp_ge (tgt := 91) dX6_hopelessBanks_18 rfl (fun c8 => ?_) (fun c8 => ?_)
      · rw [if_pos c8] at hf
        obtain ⟨rfl, rfl⟩ := y1 hf
        exact MW.sub (subL_n (subL_s (subL_n (subL_n (subL_n subL_nil))))) hX91
      · rw [if_neg c8] at hf
        refine mw_iconst (v := 0) dX6_hopelessBanks_21 (by decide) ?_
        refine mw_istore_n dX6_hopelessBanks_22 (by decide) rfl ?_
        refine mw_aload_n (x := (some a0)) dX6_hopelessBanks_23 rfl ?_
        obtain ⟨x9, e10, hf⟩ := ob hf
        refine ml_getQ dX6_hopelessBanks_24 fl_RX6_9 rfl e10 ?_
        refine mw_iload_n (x := v2) dX6_hopelessBanks_27 rfl ?_
        obtain ⟨x11, e12, hf⟩ := ob hf
        refine ml_iald dX6_hopelessBanks_28 e12 ?_
        refine mw_istore dX6_hopelessBanks_29 (by decide) rfl ?_
        obtain ⟨w23, h24, e43, hf⟩ := ob1 hf
        refine MW.sub (subL_s (subL_s (subL_s (subL_s (subL_s subL_nil))))) (tl_X6_hopelessBanks_31 E d _ _ _ _ _ _ _ _ _ e43 ?_)
        refine mw_aload_n (x := (some a0)) dX6_hopelessBanks_60 rfl ?_
        obtain ⟨x25, e26, hf⟩ := ob hf
        refine ml_getQ dX6_hopelessBanks_61 fl_RX6_18 rfl e26 ?_
        refine mw_iload_n (x := v2) dX6_hopelessBanks_64 rfl ?_
        obtain ⟨x27, e28, hf⟩ := ob hf
        refine ml_iald dX6_hopelessBanks_65 e28 ?_
        obtain ⟨w40, h41, r42, hf⟩ := ob1 hf
        have J49 : MW E m_X6_hopelessBanks (d + 1) mc ms 85 [some (vq (some a0)), some (vi w40), some (vi v2), none, none] [] h41 K := by
          refine mw_iinc (x := v2) (v := v2 + 1) dX6_hopelessBanks_85 rfl rfl (by decide) rfl ?_
          refine mw_goto (tgt := 4) dX6_hopelessBanks_88 rfl ?_
          exact MW.sub (subL_s (subL_s (subL_s (subL_n (subL_n subL_nil))))) (ih _ _ _ _ _ _ hf hX91)
        refine mw_if_lt (tgt := 79) dX6_hopelessBanks_66 rfl (fun c29 => ?_) (fun c29 => ?_)
        · rw [if_pos c29] at r42
          refine mw_iload_n (x := v1) dX6_hopelessBanks_79 rfl ?_
          refine mw_iconst (v := 1) dX6_hopelessBanks_80 (by decide) ?_
          refine mw_iload_n (x := v2) dX6_hopelessBanks_81 rfl ?_
          refine mw_ishl dX6_hopelessBanks_82 ?_
          refine mw_ior dX6_hopelessBanks_83 ?_
          refine mw_istore_n dX6_hopelessBanks_84 (by decide) rfl ?_
          obtain ⟨rfl, rfl⟩ := y1 r42
          exact MW.sub (subL_s (subL_s (subL_s (subL_n (subL_n subL_nil))))) J49
        · rw [if_neg c29] at r42
          refine mw_aload_n (x := (some a0)) dX6_hopelessBanks_69 rfl ?_
          obtain ⟨x35, e36, r42⟩ := ob r42
          refine ml_getQ dX6_hopelessBanks_70 fl_RX6_18 rfl e36 ?_
          refine mw_iload_n (x := v2) dX6_hopelessBanks_73 rfl ?_
          obtain ⟨x37, e38, r42⟩ := ob r42
          refine ml_iald dX6_hopelessBanks_74 e38 ?_
          refine mw_iload_n (x := w23) dX6_hopelessBanks_75 rfl ?_
          refine mw_icmp_le (tgt := 85) dX6_hopelessBanks_76 rfl (fun c39 => ?_) (fun c39 => ?_)
          · rw [if_pos c39] at r42
            obtain ⟨rfl, rfl⟩ := y1 r42
            exact MW.sub (subL_s (subL_s (subL_s (subL_n (subL_n subL_nil))))) J49
          · rw [if_neg c39] at r42
            refine mw_iload_n (x := v1) dX6_hopelessBanks_79 rfl ?_
            refine mw_iconst (v := 1) dX6_hopelessBanks_80 (by decide) ?_
            refine mw_iload_n (x := v2) dX6_hopelessBanks_81 rfl ?_
            refine mw_ishl dX6_hopelessBanks_82 ?_
            refine mw_ior dX6_hopelessBanks_83 ?_
            refine mw_istore_n dX6_hopelessBanks_84 (by decide) rfl ?_
            obtain ⟨rfl, rfl⟩ := y1 r42
            exact MW.sub (subL_s (subL_s (subL_s (subL_n (subL_n subL_nil))))) J49
set_option maxHeartbeats 4000000 in
theorem t_X6_hopelessBanks (E : En) (d : Nat) {mc ms : Nat} {a0 : Nat} {h h' : Hp} {r : Int32} {K : Option Vv → Hp → Prop} (hf : f_X6_hopelessBanks a0 h = some (r, h')) (hk : K (some (vi r)) h') : MC E m_X6_hopelessBanks (d + 1) mc ms [vq (some a0)] h K := by
  unfold f_X6_hopelessBanks at hf
  show MW E m_X6_hopelessBanks (d + 1) mc ms 0 [some (vq (some a0)), none, none, none, none] [] h K
  refine mw_iconst (v := 0) dX6_hopelessBanks_0 (by decide) ?_
  refine mw_istore_n dX6_hopelessBanks_1 (by decide) rfl ?_
  refine mw_iconst (v := 0) dX6_hopelessBanks_2 (by decide) ?_
  refine mw_istore_n dX6_hopelessBanks_3 (by decide) rfl ?_
  obtain ⟨w45, h46, e47, hf⟩ := ob1 hf
  refine MW.sub (subL_s (subL_s (subL_s (subL_n (subL_n subL_nil))))) (tl_X6_hopelessBanks_4 E d _ _ _ _ _ _ _ e47 ?_)
  refine mw_iload_n (x := w45) dX6_hopelessBanks_91 rfl ?_
  obtain ⟨rfl, rfl⟩ := y1 hf
  exact mw_ireturn dX6_hopelessBanks_92 rfl rfl hk
def f_X6_init (a0 : Nat) (h : Hp) : Option (Hp) :=
  (rc h (some a0) 5).bind fun g1 =>
  (nln 10 10).bind fun n3 =>
  (putQ (nw h 10 n3) (some a0) 5 0 (some h.1.length)).bind fun h5 =>
  (nln 10 10).bind fun n7 =>
  (putQ (nw h5 10 n7) (some a0) 5 1 (some h5.1.length)).bind fun h9 =>
  (nln 10 10).bind fun n11 =>
  (putQ (nw h9 10 n11) (some a0) 5 2 (some h9.1.length)).bind fun h13 =>
  (nln 105 105).bind fun n15 =>
  (putQ (nw h13 10 n15) (some a0) 5 4 (some h13.1.length)).bind fun h17 =>
  (nln 20 20).bind fun n19 =>
  (putQ (nw h17 10 n19) (some a0) 5 5 (some h17.1.length)).bind fun h21 =>
  (nln 20 20).bind fun n23 =>
  (putQ (nw h21 10 n23) (some a0) 5 6 (some h21.1.length)).bind fun h25 =>
  (nln 20 20).bind fun n27 =>
  (putQ (nw h25 10 n27) (some a0) 5 9 (some h25.1.length)).bind fun h29 =>
  (nln 20 20).bind fun n31 =>
  (putQ (nw h29 10 n31) (some a0) 5 10 (some h29.1.length)).bind fun h33 =>
  (nln 20 20).bind fun n35 =>
  (putQ (nw h33 10 n35) (some a0) 5 11 (some h33.1.length)).bind fun h37 =>
  some h37
set_option maxHeartbeats 4000000 in
theorem t_X6_init (E : En) (d : Nat) {a0 : Nat} {h h' : Hp} {K : Option Vv → Hp → Prop} (hf : f_X6_init a0 h = some h') (hk : K none h') : MC E m_X6_init (d + 1) 9 235 [vq (some a0)] h K := by
  unfold f_X6_init at hf
  show MW E m_X6_init (d + 1) 9 235 0 [some (vq (some a0))] [] h K
  refine mw_aload_n (x := (some a0)) dX6_init_0 rfl ?_
  obtain ⟨g1, e2, hf⟩ := ob hf
  refine ml_objInit dX6_init_1 lk_RX6_3 oi_im oi_cd e2 (Nat.le_of_ble_eq_true rfl) ?_
  refine mw_aload_n (x := (some a0)) dX6_init_4 rfl ?_
  refine mw_bipush (v := 10) dX6_init_5 (by decide) ?_
  obtain ⟨n3, e4, hf⟩ := ob hf
  refine ml_newa (kd := 10) (most := 10) (mc := 8) (ms := 225) dX6_init_7 rfl (by decide) ac_int (by decide) e4 ?_
  obtain ⟨h5, e6, hf⟩ := ob hf
  refine ml_putQ dX6_init_9 fl_RX6_9 (Or.inr ⟨rfl, rfl, rfl⟩) rfl (Or.inr ⟨_, rfl⟩) e6 ?_
  refine mw_aload_n (x := (some a0)) dX6_init_12 rfl ?_
  refine mw_bipush (v := 10) dX6_init_13 (by decide) ?_
  obtain ⟨n7, e8, hf⟩ := ob hf
  refine ml_newa (kd := 10) (most := 10) (mc := 7) (ms := 215) dX6_init_15 rfl (by decide) ac_int (by decide) e8 ?_
  obtain ⟨h9, e10, hf⟩ := ob hf
  refine ml_putQ dX6_init_17 fl_RX6_15 (Or.inr ⟨rfl, rfl, rfl⟩) rfl (Or.inr ⟨_, rfl⟩) e10 ?_
  refine mw_aload_n (x := (some a0)) dX6_init_20 rfl ?_
  refine mw_bipush (v := 10) dX6_init_21 (by decide) ?_
  obtain ⟨n11, e12, hf⟩ := ob hf
  refine ml_newa (kd := 10) (most := 10) (mc := 6) (ms := 205) dX6_init_23 rfl (by decide) ac_int (by decide) e12 ?_
  obtain ⟨h13, e14, hf⟩ := ob hf
  refine ml_putQ dX6_init_25 fl_RX6_18 (Or.inr ⟨rfl, rfl, rfl⟩) rfl (Or.inr ⟨_, rfl⟩) e14 ?_
  refine mw_aload_n (x := (some a0)) dX6_init_28 rfl ?_
  refine mw_bipush (v := 105) dX6_init_29 (by decide) ?_
  obtain ⟨n15, e16, hf⟩ := ob hf
  refine ml_newa (kd := 10) (most := 105) (mc := 5) (ms := 100) dX6_init_31 rfl (by decide) ac_int (by decide) e16 ?_
  obtain ⟨h17, e18, hf⟩ := ob hf
  refine ml_putQ dX6_init_33 fl_RX6_21 (Or.inr ⟨rfl, rfl, rfl⟩) rfl (Or.inr ⟨_, rfl⟩) e18 ?_
  refine mw_aload_n (x := (some a0)) dX6_init_36 rfl ?_
  refine mw_bipush (v := 20) dX6_init_37 (by decide) ?_
  obtain ⟨n19, e20, hf⟩ := ob hf
  refine ml_newa (kd := 10) (most := 20) (mc := 4) (ms := 80) dX6_init_39 rfl (by decide) ac_int (by decide) e20 ?_
  obtain ⟨h21, e22, hf⟩ := ob hf
  refine ml_putQ dX6_init_41 fl_RX6_24 (Or.inr ⟨rfl, rfl, rfl⟩) rfl (Or.inr ⟨_, rfl⟩) e22 ?_
  refine mw_aload_n (x := (some a0)) dX6_init_44 rfl ?_
  refine mw_bipush (v := 20) dX6_init_45 (by decide) ?_
  obtain ⟨n23, e24, hf⟩ := ob hf
  refine ml_newa (kd := 10) (most := 20) (mc := 3) (ms := 60) dX6_init_47 rfl (by decide) ac_int (by decide) e24 ?_
  obtain ⟨h25, e26, hf⟩ := ob hf
  refine ml_putQ dX6_init_49 fl_RX6_27 (Or.inr ⟨rfl, rfl, rfl⟩) rfl (Or.inr ⟨_, rfl⟩) e26 ?_
  refine mw_aload_n (x := (some a0)) dX6_init_52 rfl ?_
  refine mw_bipush (v := 20) dX6_init_53 (by decide) ?_
  obtain ⟨n27, e28, hf⟩ := ob hf
  refine ml_newa (kd := 10) (most := 20) (mc := 2) (ms := 40) dX6_init_55 rfl (by decide) ac_int (by decide) e28 ?_
  obtain ⟨h29, e30, hf⟩ := ob hf
  refine ml_putQ dX6_init_57 fl_RX6_30 (Or.inr ⟨rfl, rfl, rfl⟩) rfl (Or.inr ⟨_, rfl⟩) e30 ?_
  refine mw_aload_n (x := (some a0)) dX6_init_60 rfl ?_
  refine mw_bipush (v := 20) dX6_init_61 (by decide) ?_
  obtain ⟨n31, e32, hf⟩ := ob hf
  refine ml_newa (kd := 10) (most := 20) (mc := 1) (ms := 20) dX6_init_63 rfl (by decide) ac_int (by decide) e32 ?_
  obtain ⟨h33, e34, hf⟩ := ob hf
  refine ml_putQ dX6_init_65 fl_RX6_33 (Or.inr ⟨rfl, rfl, rfl⟩) rfl (Or.inr ⟨_, rfl⟩) e34 ?_
  refine mw_aload_n (x := (some a0)) dX6_init_68 rfl ?_
  refine mw_bipush (v := 20) dX6_init_69 (by decide) ?_
  obtain ⟨n35, e36, hf⟩ := ob hf
  refine ml_newa (kd := 10) (most := 20) (mc := 0) (ms := 0) dX6_init_71 rfl (by decide) ac_int (by decide) e36 ?_
  obtain ⟨h37, e38, hf⟩ := ob hf
  refine ml_putQ dX6_init_73 fl_RX6_36 (Or.inr ⟨rfl, rfl, rfl⟩) rfl (Or.inr ⟨_, rfl⟩) e38 ?_
  obtain rfl := y0 hf
  exact mw_return dX6_init_76 rfl hk
def f_X6_leaveOut_L17 : Nat → Nat → Int32 → Int32 → Int32 → Hp → Option ((Int32 × Hp) ⊕ (Hp))
  | 0, _, _, _, _, _ => none
  | n + 1, a0, v1, v2, v3, h =>
    (getI h (some a0) 5 3).bind fun x10 =>
    if ((1 : Int32) <<< (x10 &&& 31)) ≤ v3 then
      some (Sum.inr h)
    else
      if (v1 &&& (v3 ^^^ ((-1) : Int32))) = (0 : Int32) then
        b1 (f_J6_bitCount_0f7a4 v3 h) fun x16 h14 =>
        if x16 = v2 then
          (getQ h14 (some a0) 5 9).bind fun x18 =>
          (f_J7_fill_53178 x18 (0 : Int32) h14).bind fun h20 =>
          (rc h20 (some a0) 5).bind fun g24 =>
          b1 (f_X6_comesToRest g24 v3 h20) fun x26 h22 =>
          if x26 = (0 : Int32) then
            f_X6_leaveOut_L17 n a0 v1 v2 (v3 + 1) h22
          else
            some (Sum.inl (v3, h22))
        else
          f_X6_leaveOut_L17 n a0 v1 v2 (v3 + 1) h14
      else
        f_X6_leaveOut_L17 n a0 v1 v2 (v3 + 1) h
def f_X6_leaveOut_L10 : Nat → Nat → Int32 → Int32 → Hp → Option ((Int32 × Hp) ⊕ (Hp))
  | 0, _, _, _, _ => none
  | n + 1, a0, v1, v2, h =>
    if (3 : Int32) < v2 then
      some (Sum.inr h)
    else
      (f_X6_leaveOut_L17 fu a0 v1 v2 0 h).bind (Sum.elim (c1 fun w28 h29 => some (Sum.inl (w28, h29))) (fun h30 => f_X6_leaveOut_L10 n a0 v1 (v2 + 1) h30))
def f_X6_leaveOut (a0 : Nat) (h : Hp) : Option (Int32 × Hp) :=
  (rc h (some a0) 5).bind fun g3 =>
  b1 (f_X6_hopelessBanks g3 h) fun x5 h1 =>
  b1 (f_J6_bitCount_0f7a4 x5 h1) fun x8 h6 =>
  (f_X6_leaveOut_L10 fu a0 x5 x8 h6).bind (Sum.elim (c1 fun w33 h34 => some (w33, h34)) (fun h35 => some ((-1), h35)))
set_option maxHeartbeats 4000000 in
theorem tl_X6_leaveOut_17 (E : En) (d : Nat) {mc ms : Nat} {K : Option Vv → Hp → Prop} : ∀ (n : Nat) (a0 : Nat) (v1 : Int32) (v2 : Int32) (v3 : Int32) (h : Hp) (o : (Int32 × Hp) ⊕ (Hp)), f_X6_leaveOut_L17 n a0 v1 v2 v3 h = some o → (∀ (u3 : Int32) (hz : Hp), o = Sum.inl (u3, hz) → MW E m_X6_leaveOut (d + 2) mc ms 59 [none, none, none, some (vi u3)] [] hz K) → (∀ (hz : Hp), o = Sum.inr hz → MW E m_X6_leaveOut (d + 2) mc ms 67 [some (vq (some a0)), some (vi v1), some (vi v2), none] [] hz K) → MW E m_X6_leaveOut (d + 2) mc ms 17 [some (vq (some a0)), some (vi v1), some (vi v2), some (vi v3)] [] h K := by
  intro n
  induction n with
  | zero => intro a0 v1 v2 v3 h o hf; exact nomatch (show none = some _ from hf)
  | succ n ih =>
    intro a0 v1 v2 v3 h o hf hX59 hX67
    rw [f_X6_leaveOut_L17] at hf
    refine mw_iload_n (x := v3) dX6_leaveOut_17 rfl ?_
    refine mw_iconst (v := 1) dX6_leaveOut_18 (by decide) ?_
    refine mw_aload_n (x := (some a0)) dX6_leaveOut_19 rfl ?_
    obtain ⟨x10, e11, hf⟩ := ob hf
    refine ml_getI dX6_leaveOut_20 fl_RX6_47 rfl e11 ?_
    refine mw_ishl dX6_leaveOut_23 ?_
    refine mw_icmp_ge (tgt := 67) dX6_leaveOut_24 rfl (fun c12 => ?_) (fun c12 => ?_)
    · rw [if_pos c12] at hf
      obtain rfl := y0 hf
      exact MW.sub (subL_s (subL_s (subL_s (subL_n subL_nil)))) (hX67 _ rfl)
    · rw [if_neg c12] at hf
      refine mw_iload_n (x := v1) dX6_leaveOut_27 rfl ?_
      refine mw_iload_n (x := v3) dX6_leaveOut_28 rfl ?_
      refine mw_iconst (v := (-1)) dX6_leaveOut_29 (by decide) ?_
      refine mw_ixor dX6_leaveOut_30 ?_
      refine mw_iand dX6_leaveOut_31 ?_
      refine mw_if_ne (tgt := 61) dX6_leaveOut_32 rfl (fun c13 => ?_) (fun c13 => ?_)
      · rw [if_neg c13] at hf
        refine mw_iinc (x := v3) (v := v3 + 1) dX6_leaveOut_61 rfl rfl (by decide) rfl ?_
        refine mw_goto (tgt := 17) dX6_leaveOut_64 rfl ?_
        exact MW.sub (subL_s (subL_s (subL_s (subL_s subL_nil)))) (ih _ _ _ _ _ _ hf hX59 hX67)
      · rw [if_pos c13] at hf
        refine mw_iload_n (x := v3) dX6_leaveOut_35 rfl ?_
        obtain ⟨x16, h14, e15, hf⟩ := ob1 hf
        refine ml_callS (mc' := 0) (ms' := 0) [vi v3] dX6_leaveOut_36 mk_J6_bitCount_0f7a4 lk_RX6_119 st_J6_bitCount_0f7a4 rfl (Nat.le_of_ble_eq_true rfl) (Nat.le_of_ble_eq_true rfl) (t_J6_bitCount_0f7a4 E _ e15 isR_rfl) ?_
        refine mw_iload_n (x := v2) dX6_leaveOut_39 rfl ?_
        refine mw_icmp_ne (tgt := 61) dX6_leaveOut_40 rfl (fun c17 => ?_) (fun c17 => ?_)
        · rw [if_neg c17] at hf
          refine mw_iinc (x := v3) (v := v3 + 1) dX6_leaveOut_61 rfl rfl (by decide) rfl ?_
          refine mw_goto (tgt := 17) dX6_leaveOut_64 rfl ?_
          exact MW.sub (subL_s (subL_s (subL_s (subL_s subL_nil)))) (ih _ _ _ _ _ _ hf hX59 hX67)
        · rw [if_pos c17] at hf
          refine mw_aload_n (x := (some a0)) dX6_leaveOut_43 rfl ?_
          obtain ⟨x18, e19, hf⟩ := ob hf
          refine ml_getQ dX6_leaveOut_44 fl_RX6_30 rfl e19 ?_
          refine mw_iconst (v := 0) dX6_leaveOut_47 (by decide) ?_
          obtain ⟨h20, e21, hf⟩ := ob hf
          refine ml_callS (mc' := 0) (ms' := 0) [vq x18, vi (0 : Int32)] dX6_leaveOut_48 mk_J7_fill_53178 lk_RX6_66 st_J7_fill_53178 rfl (Nat.le_of_ble_eq_true rfl) (Nat.le_of_ble_eq_true rfl) (t_J7_fill_53178 E _ e21 isR_rfl) ?_
          refine mw_aload_n (x := (some a0)) dX6_leaveOut_51 rfl ?_
          refine mw_iload_n (x := v3) dX6_leaveOut_52 rfl ?_
          obtain ⟨g24, e25, hf⟩ := ob hf
          obtain ⟨x26, h22, e23, hf⟩ := ob1 hf
          refine ml_callV (ci := 5) (mc' := 0) (ms' := 0) [vi v3] dX6_leaveOut_53 mk_X6_comesToRest lk_RX6_124 im_X6_comesToRest se_X6_comesToRest (by decide) e25 rfl (Nat.le_of_ble_eq_true rfl) (Nat.le_of_ble_eq_true rfl) (t_X6_comesToRest E _ e23 isR_rfl) ?_
          refine mw_if_eq (tgt := 61) dX6_leaveOut_56 rfl (fun c27 => ?_) (fun c27 => ?_)
          · rw [if_pos c27] at hf
            refine mw_iinc (x := v3) (v := v3 + 1) dX6_leaveOut_61 rfl rfl (by decide) rfl ?_
            refine mw_goto (tgt := 17) dX6_leaveOut_64 rfl ?_
            exact MW.sub (subL_s (subL_s (subL_s (subL_s subL_nil)))) (ih _ _ _ _ _ _ hf hX59 hX67)
          · rw [if_neg c27] at hf
            obtain rfl := y0 hf
            exact MW.sub (subL_n (subL_n (subL_n (subL_s subL_nil)))) (hX59 _ _ rfl)
set_option maxHeartbeats 4000000 in
theorem tl_X6_leaveOut_10 (E : En) (d : Nat) {mc ms : Nat} {K : Option Vv → Hp → Prop} : ∀ (n : Nat) (a0 : Nat) (v1 : Int32) (v2 : Int32) (h : Hp) (o : (Int32 × Hp) ⊕ (Hp)), f_X6_leaveOut_L10 n a0 v1 v2 h = some o → (∀ (u3 : Int32) (hz : Hp), o = Sum.inl (u3, hz) → MW E m_X6_leaveOut (d + 2) mc ms 59 [none, none, none, some (vi u3)] [] hz K) → (∀ (hz : Hp), o = Sum.inr hz → MW E m_X6_leaveOut (d + 2) mc ms 73 [none, none, none, none] [] hz K) → MW E m_X6_leaveOut (d + 2) mc ms 10 [some (vq (some a0)), some (vi v1), some (vi v2), none] [] h K := by
  intro n
  induction n with
  | zero => intro a0 v1 v2 h o hf; exact nomatch (show none = some _ from hf)
  | succ n ih =>
    intro a0 v1 v2 h o hf hX59 hX73
    rw [f_X6_leaveOut_L10] at hf
    refine mw_iload_n (x := v2) dX6_leaveOut_10 rfl ?_
    refine mw_iconst (v := 3) dX6_leaveOut_11 (by decide) ?_
    refine mw_icmp_gt (tgt := 73) dX6_leaveOut_12 rfl (fun c9 => ?_) (fun c9 => ?_)
    · rw [if_pos c9] at hf
      obtain rfl := y0 hf
      exact MW.sub (subL_n (subL_n (subL_n (subL_n subL_nil)))) (hX73 _ rfl)
    · rw [if_neg c9] at hf
      refine mw_iconst (v := 0) dX6_leaveOut_15 (by decide) ?_
      refine mw_istore_n dX6_leaveOut_16 (by decide) rfl ?_
      obtain ⟨o32, e31, hf⟩ := ob hf
      rcases o32 with ⟨w28, h29⟩ | h30
      · have HX : MW E m_X6_leaveOut (d + 2) mc ms 59 [none, none, none, some (vi w28)] [] h29 K := by
          obtain rfl := y0 hf
          exact MW.sub (subL_n (subL_n (subL_n (subL_s subL_nil)))) (hX59 _ _ rfl)
        exact MW.sub (subL_s (subL_s (subL_s (subL_s subL_nil)))) (tl_X6_leaveOut_17 E d _ _ _ _ _ _ _ e31 (fun _ _ q => by cases q; exact HX) (fun _ q => by cases q))
      · have HX : MW E m_X6_leaveOut (d + 2) mc ms 67 [some (vq (some a0)), some (vi v1), some (vi v2), none] [] h30 K := by
          refine mw_iinc (x := v2) (v := v2 + 1) dX6_leaveOut_67 rfl rfl (by decide) rfl ?_
          refine mw_goto (tgt := 10) dX6_leaveOut_70 rfl ?_
          exact MW.sub (subL_s (subL_s (subL_s (subL_n subL_nil)))) (ih _ _ _ _ _ hf hX59 hX73)
        exact MW.sub (subL_s (subL_s (subL_s (subL_s subL_nil)))) (tl_X6_leaveOut_17 E d _ _ _ _ _ _ _ e31 (fun _ _ q => by cases q) (fun _ q => by cases q; exact HX))
set_option maxHeartbeats 4000000 in
theorem t_X6_leaveOut (E : En) (d : Nat) {mc ms : Nat} {a0 : Nat} {h h' : Hp} {r : Int32} {K : Option Vv → Hp → Prop} (hf : f_X6_leaveOut a0 h = some (r, h')) (hk : K (some (vi r)) h') : MC E m_X6_leaveOut (d + 2) mc ms [vq (some a0)] h K := by
  unfold f_X6_leaveOut at hf
  show MW E m_X6_leaveOut (d + 2) mc ms 0 [some (vq (some a0)), none, none, none] [] h K
  refine mw_aload_n (x := (some a0)) dX6_leaveOut_0 rfl ?_
  obtain ⟨g3, e4, hf⟩ := ob hf
  obtain ⟨x5, h1, e2, hf⟩ := ob1 hf
  refine ml_callV (ci := 5) (mc' := 0) (ms' := 0) [] dX6_leaveOut_1 mk_X6_hopelessBanks lk_RX6_116 im_X6_hopelessBanks se_X6_hopelessBanks (by decide) e4 rfl (Nat.le_of_ble_eq_true rfl) (Nat.le_of_ble_eq_true rfl) (t_X6_hopelessBanks E _ e2 isR_rfl) ?_
  refine mw_istore_n dX6_leaveOut_4 (by decide) rfl ?_
  refine mw_iload_n (x := x5) dX6_leaveOut_5 rfl ?_
  obtain ⟨x8, h6, e7, hf⟩ := ob1 hf
  refine ml_callS (mc' := 0) (ms' := 0) [vi x5] dX6_leaveOut_6 mk_J6_bitCount_0f7a4 lk_RX6_119 st_J6_bitCount_0f7a4 rfl (Nat.le_of_ble_eq_true rfl) (Nat.le_of_ble_eq_true rfl) (t_J6_bitCount_0f7a4 E _ e7 isR_rfl) ?_
  refine mw_istore_n dX6_leaveOut_9 (by decide) rfl ?_
  obtain ⟨o37, e36, hf⟩ := ob hf
  rcases o37 with ⟨w33, h34⟩ | h35
  · have HX : MW E m_X6_leaveOut (d + 2) mc ms 59 [none, none, none, some (vi w33)] [] h34 K := by
      refine mw_iload_n (x := w33) dX6_leaveOut_59 rfl ?_
      obtain ⟨rfl, rfl⟩ := y1 hf
      exact mw_ireturn dX6_leaveOut_60 rfl rfl hk
    exact MW.sub (subL_s (subL_s (subL_s (subL_n subL_nil)))) (tl_X6_leaveOut_10 E d _ _ _ _ _ _ e36 (fun _ _ q => by cases q; exact HX) (fun _ q => by cases q))
  · have HX : MW E m_X6_leaveOut (d + 2) mc ms 73 [none, none, none, none] [] h35 K := by
      refine mw_iconst (v := (-1)) dX6_leaveOut_73 (by decide) ?_
      obtain ⟨rfl, rfl⟩ := y1 hf
      exact mw_ireturn dX6_leaveOut_74 rfl rfl hk
    exact MW.sub (subL_s (subL_s (subL_s (subL_n subL_nil)))) (tl_X6_leaveOut_10 E d _ _ _ _ _ _ e36 (fun _ _ q => by cases q) (fun _ q => by cases q; exact HX))
def f_X7_totalPaid_L4 : Nat → Nat → Int32 → Int32 → Int32 → Hp → Option ((Int32 × Hp))
  | 0, _, _, _, _, _ => none
  | n + 1, a0, v1, v2, v3, h =>
    if (5 : Int32) ≤ v3 then
      some (v2, h)
    else
      (getQ h (some a0) 6 7).bind fun x2 =>
      b1 (f_X8_at x2 ((v3 * (104 : Int32)) + v1) h) fun x6 h4 =>
      f_X7_totalPaid_L4 n a0 v1 (v2 + x6) (v3 + 1) h4
def f_X7_totalPaid (a0 : Nat) (v1 : Int32) (h : Hp) : Option (Int32 × Hp) :=
  b1 (f_X7_totalPaid_L4 fu a0 v1 0 0 h) fun w7 h8 =>
  some (w7, h8)
set_option maxHeartbeats 4000000 in
theorem tl_X7_totalPaid_4 (E : En) (d : Nat) {mc ms : Nat} {K : Option Vv → Hp → Prop} : ∀ (n : Nat) (a0 : Nat) (v1 : Int32) (v2 : Int32) (v3 : Int32) (h : Hp) (u2 : Int32) (hz : Hp), f_X7_totalPaid_L4 n a0 v1 v2 v3 h = some (u2, hz) → MW E m_X7_totalPaid (d + 1) mc ms 31 [none, none, some (vi u2), none] [] hz K → MW E m_X7_totalPaid (d + 1) mc ms 4 [some (vq (some a0)), some (vi v1), some (vi v2), some (vi v3)] [] h K := by
  intro n
  induction n with
  | zero => intro a0 v1 v2 v3 h u2 hz hf; exact nomatch (show none = some _ from hf)
  | succ n ih =>
    intro a0 v1 v2 v3 h u2 hz hf hX31
    rw [f_X7_totalPaid_L4] at hf
    refine mw_iload_n (x := v3) dX7_totalPaid_4 rfl ?_
    refine mw_iconst (v := 5) dX7_totalPaid_5 (by decide) ?_
    refine mw_icmp_ge (tgt := 31) dX7_totalPaid_6 rfl (fun c1 => ?_) (fun c1 => ?_)
    · rw [if_pos c1] at hf
      obtain ⟨rfl, rfl⟩ := y1 hf
      exact MW.sub (subL_n (subL_n (subL_s (subL_n subL_nil)))) hX31
    · rw [if_neg c1] at hf
      refine mw_iload_n (x := v2) dX7_totalPaid_9 rfl ?_
      refine mw_aload_n (x := (some a0)) dX7_totalPaid_10 rfl ?_
      obtain ⟨x2, e3, hf⟩ := ob hf
      refine ml_getQ dX7_totalPaid_11 fl_RX7_9 rfl e3 ?_
      refine mw_iload_n (x := v3) dX7_totalPaid_14 rfl ?_
      refine mw_bipush (v := 104) dX7_totalPaid_15 (by decide) ?_
      refine mw_imul dX7_totalPaid_17 ?_
      refine mw_iload_n (x := v1) dX7_totalPaid_18 rfl ?_
      refine mw_iadd dX7_totalPaid_19 ?_
      obtain ⟨x6, h4, e5, hf⟩ := ob1 hf
      refine ml_callSN (mc' := 0) (ms' := 0) [vq x2, vi ((v3 * (104 : Int32)) + v1)] dX7_totalPaid_20 mk_X8_at lk_RX7_95 st_X8_at rfl (Nat.le_of_ble_eq_true rfl) (Nat.le_of_ble_eq_true rfl) (t_X8_at E _ e5 isR_rfl) ?_
      refine mw_iadd dX7_totalPaid_23 ?_
      refine mw_istore_n dX7_totalPaid_24 (by decide) rfl ?_
      refine mw_iinc (x := v3) (v := v3 + 1) dX7_totalPaid_25 rfl rfl (by decide) rfl ?_
      refine mw_goto (tgt := 4) dX7_totalPaid_28 rfl ?_
      exact MW.sub (subL_s (subL_s (subL_s (subL_s subL_nil)))) (ih _ _ _ _ _ _ _ hf hX31)
set_option maxHeartbeats 4000000 in
theorem t_X7_totalPaid (E : En) (d : Nat) {mc ms : Nat} {a0 : Nat} {v1 : Int32} {h h' : Hp} {r : Int32} {K : Option Vv → Hp → Prop} (hf : f_X7_totalPaid a0 v1 h = some (r, h')) (hk : K (some (vi r)) h') : MC E m_X7_totalPaid (d + 1) mc ms [vq (some a0), vi v1] h K := by
  unfold f_X7_totalPaid at hf
  show MW E m_X7_totalPaid (d + 1) mc ms 0 [some (vq (some a0)), some (vi v1), none, none] [] h K
  refine mw_iconst (v := 0) dX7_totalPaid_0 (by decide) ?_
  refine mw_istore_n dX7_totalPaid_1 (by decide) rfl ?_
  refine mw_iconst (v := 0) dX7_totalPaid_2 (by decide) ?_
  refine mw_istore_n dX7_totalPaid_3 (by decide) rfl ?_
  obtain ⟨w7, h8, e9, hf⟩ := ob1 hf
  refine MW.sub (subL_s (subL_s (subL_s (subL_s subL_nil)))) (tl_X7_totalPaid_4 E d _ _ _ _ _ _ _ _ e9 ?_)
  refine mw_iload_n (x := w7) dX7_totalPaid_31 rfl ?_
  obtain ⟨rfl, rfl⟩ := y1 hf
  exact mw_ireturn dX7_totalPaid_32 rfl rfl hk
def f_X6_setPosts_L22 : Nat → Nat → Option Nat → Int32 → Int32 → Hp → Option ((Hp))
  | 0, _, _, _, _, _ => none
  | n + 1, a0, q1, v2, v3, h =>
    (getQ h (some a0) 5 4).bind fun x9 =>
    (aln h x9 10).bind fun x11 =>
    if x11 ≤ v3 then
      some h
    else
      (getQ h (some a0) 5 4).bind fun x14 =>
      (rdI h x14 10 v3).bind fun x16 =>
      Option.bind ((if x16 = ((-1) : Int32) then
          some h
        else
          (getI h (some a0) 5 8).bind fun x41 =>
          if x41 < (0 : Int32) then
            some h
          else
            (getI h (some a0) 5 8).bind fun x44 =>
            if (20 : Int32) ≤ x44 then
              some h
            else
              (getQ h (some a0) 5 5).bind fun x47 =>
              (getI h (some a0) 5 8).bind fun x49 =>
              (wrI h x47 x49 v2).bind fun h51 =>
              (getQ h51 (some a0) 5 4).bind fun x53 =>
              (getI h51 (some a0) 5 8).bind fun x55 =>
              (wrI h51 x53 v3 x55).bind fun h57 =>
              (getI h57 (some a0) 5 8).bind fun x59 =>
              (putI h57 (some a0) 5 8 (x59 + (1 : Int32))).bind fun h61 =>
              some h61 : Option (Hp))) fun h63 =>
      (getI h63 (some a0) 5 8).bind fun x65 =>
      Option.bind ((if x65 ≤ (0 : Int32) then
          some h63
        else
          (getI h63 (some a0) 5 8).bind fun x89 =>
          if (20 : Int32) < x89 then
            some h63
          else
            (getQ h63 q1 6 8).bind fun x92 =>
            b1 (f_X8_at x92 v3 h63) fun x96 h94 =>
            if x96 = (0 : Int32) then
              some h94
            else
              (getQ h94 (some a0) 5 6).bind fun x98 =>
              (getI h94 (some a0) 5 8).bind fun x100 =>
              (rdI h94 x98 10 (x100 - (1 : Int32))).bind fun x102 =>
              (wrI h94 x98 (x100 - (1 : Int32)) (x102 + (9999 : Int32))).bind fun h104 =>
              (getI h104 (some a0) 5 7).bind fun x106 =>
              (putI h104 (some a0) 5 7 (x106 + (9999 : Int32))).bind fun h108 =>
              some h108 : Option (Hp))) fun h110 =>
      b1 ((if (104 : Int32) ≤ v3 then
          some (0, h110)
        else
          (rc h110 q1 6).bind fun g120 =>
          b1 (f_X7_totalPaid g120 v3 h110) fun x122 h118 =>
          some (x122, h118) : Option (Int32 × Hp))) fun w123 h124 =>
      f_X6_setPosts_L22 n a0 q1 (v2 + w123) (v3 + 1) h124
def f_X6_setPosts (a0 : Nat) (q1 : Option Nat) (h : Hp) : Option (Hp) :=
  (putI h (some a0) 5 8 0).bind fun h1 =>
  (putI h1 (some a0) 5 7 0).bind fun h3 =>
  (getQ h3 (some a0) 5 6).bind fun x5 =>
  (f_J7_fill_53178 x5 (0 : Int32) h3).bind fun h7 =>
  (f_X6_setPosts_L22 fu a0 q1 0 0 h7).bind fun h126 =>
  some h126
set_option maxHeartbeats 4000000 in
theorem tl_X6_setPosts_22 (E : En) (d : Nat) {mc ms : Nat} {K : Option Vv → Hp → Prop} : ∀ (n : Nat) (a0 : Nat) (q1 : Option Nat) (v2 : Int32) (v3 : Int32) (h : Hp) (hz : Hp), f_X6_setPosts_L22 n a0 q1 v2 v3 h = some hz → MW E m_X6_setPosts (d + 2) mc ms 167 [none, none, none, none] [] hz K → MW E m_X6_setPosts (d + 2) mc ms 22 [some (vq (some a0)), some (vq q1), some (vi v2), some (vi v3)] [] h K := by
  intro n
  induction n with
  | zero => intro a0 q1 v2 v3 h hz hf; exact nomatch (show none = some _ from hf)
  | succ n ih =>
    intro a0 q1 v2 v3 h hz hf hX167
    rw [f_X6_setPosts_L22] at hf
    refine mw_iload_n (x := v3) dX6_setPosts_22 rfl ?_
    refine mw_aload_n (x := (some a0)) dX6_setPosts_23 rfl ?_
    obtain ⟨x9, e10, hf⟩ := ob hf
    refine ml_getQ dX6_setPosts_24 fl_RX6_21 rfl e10 ?_
    obtain ⟨x11, e12, hf⟩ := ob hf
    refine ml_alen dX6_setPosts_27 e12 (by decide) (by decide) ?_
    refine mw_icmp_ge (tgt := 167) dX6_setPosts_28 rfl (fun c13 => ?_) (fun c13 => ?_)
    · rw [if_pos c13] at hf
      obtain rfl := y0 hf
      exact MW.sub (subL_n (subL_n (subL_n (subL_n subL_nil)))) hX167
    · rw [if_neg c13] at hf
      refine mw_aload_n (x := (some a0)) dX6_setPosts_31 rfl ?_
      obtain ⟨x14, e15, hf⟩ := ob hf
      refine ml_getQ dX6_setPosts_32 fl_RX6_21 rfl e15 ?_
      refine mw_iload_n (x := v3) dX6_setPosts_35 rfl ?_
      obtain ⟨x16, e17, hf⟩ := ob hf
      refine ml_iald dX6_setPosts_36 e17 ?_
      refine mw_iconst (v := (-1)) dX6_setPosts_37 (by decide) ?_
      obtain ⟨h63, r64, hf⟩ := ob hf
      have J129 : MW E m_X6_setPosts (d + 2) mc ms 87 [some (vq (some a0)), some (vq q1), some (vi v2), some (vi v3)] [] h63 K := by
        refine mw_aload_n (x := (some a0)) dX6_setPosts_87 rfl ?_
        obtain ⟨x65, e66, hf⟩ := ob hf
        refine ml_getI dX6_setPosts_88 fl_RX6_103 rfl e66 ?_
        obtain ⟨h110, r111, hf⟩ := ob hf
        have J130 : MW E m_X6_setPosts (d + 2) mc ms 143 [some (vq (some a0)), some (vq q1), some (vi v2), some (vi v3)] [] h110 K := by
          refine mw_iload_n (x := v2) dX6_setPosts_143 rfl ?_
          refine mw_iload_n (x := v3) dX6_setPosts_144 rfl ?_
          refine mw_bipush (v := 104) dX6_setPosts_145 (by decide) ?_
          obtain ⟨w123, h124, r125, hf⟩ := ob1 hf
          have J131 : MW E m_X6_setPosts (d + 2) mc ms 159 [some (vq (some a0)), some (vq q1), none, some (vi v3)] [vi w123, vi v2] h124 K := by
            refine mw_iadd dX6_setPosts_159 ?_
            refine mw_istore_n dX6_setPosts_160 (by decide) rfl ?_
            refine mw_iinc (x := v3) (v := v3 + 1) dX6_setPosts_161 rfl rfl (by decide) rfl ?_
            refine mw_goto (tgt := 22) dX6_setPosts_164 rfl ?_
            exact MW.sub (subL_s (subL_s (subL_s (subL_s subL_nil)))) (ih _ _ _ _ _ _ hf hX167)
          refine mw_icmp_ge (tgt := 158) dX6_setPosts_147 rfl (fun c112 => ?_) (fun c112 => ?_)
          · rw [if_pos c112] at r125
            refine mw_iconst (v := 0) dX6_setPosts_158 (by decide) ?_
            obtain ⟨rfl, rfl⟩ := y1 r125
            exact MW.sub (subL_s (subL_s (subL_n (subL_s subL_nil)))) J131
          · rw [if_neg c112] at r125
            refine mw_aload_n (x := q1) dX6_setPosts_150 rfl ?_
            refine mw_iload_n (x := v3) dX6_setPosts_151 rfl ?_
            obtain ⟨g120, e121, r125⟩ := ob r125
            obtain ⟨x122, h118, e119, r125⟩ := ob1 r125
            refine ml_callV (ci := 6) (mc' := 0) (ms' := 0) [vi v3] dX6_setPosts_152 mk_X7_totalPaid lk_RX6_112 im_X7_totalPaid se_X7_totalPaid (by decide) e121 rfl (Nat.le_of_ble_eq_true rfl) (Nat.le_of_ble_eq_true rfl) (t_X7_totalPaid E _ e119 isR_rfl) ?_
            refine mw_goto (tgt := 159) dX6_setPosts_155 rfl ?_
            obtain ⟨rfl, rfl⟩ := y1 r125
            exact MW.sub (subL_s (subL_s (subL_n (subL_s subL_nil)))) J131
        refine mw_if_le (tgt := 143) dX6_setPosts_91 rfl (fun c67 => ?_) (fun c67 => ?_)
        · rw [if_pos c67] at r111
          obtain rfl := y0 r111
          exact MW.sub (subL_s (subL_s (subL_s (subL_s subL_nil)))) J130
        · rw [if_neg c67] at r111
          refine mw_aload_n (x := (some a0)) dX6_setPosts_94 rfl ?_
          obtain ⟨x89, e90, r111⟩ := ob r111
          refine ml_getI dX6_setPosts_95 fl_RX6_103 rfl e90 ?_
          refine mw_bipush (v := 20) dX6_setPosts_98 (by decide) ?_
          refine mw_icmp_gt (tgt := 143) dX6_setPosts_100 rfl (fun c91 => ?_) (fun c91 => ?_)
          · rw [if_pos c91] at r111
            obtain rfl := y0 r111
            exact MW.sub (subL_s (subL_s (subL_s (subL_s subL_nil)))) J130
          · rw [if_neg c91] at r111
            refine mw_aload_n (x := q1) dX6_setPosts_103 rfl ?_
            obtain ⟨x92, e93, r111⟩ := ob r111
            refine ml_getQ dX6_setPosts_104 fl_RX6_109 rfl e93 ?_
            refine mw_iload_n (x := v3) dX6_setPosts_107 rfl ?_
            obtain ⟨x96, h94, e95, r111⟩ := ob1 r111
            refine ml_callSN (mc' := 0) (ms' := 0) [vq x92, vi v3] dX6_setPosts_108 mk_X8_at lk_RX6_51 st_X8_at rfl (Nat.le_of_ble_eq_true rfl) (Nat.le_of_ble_eq_true rfl) (t_X8_at E _ e95 isR_rfl) ?_
            refine mw_if_eq (tgt := 143) dX6_setPosts_111 rfl (fun c97 => ?_) (fun c97 => ?_)
            · rw [if_pos c97] at r111
              obtain rfl := y0 r111
              exact MW.sub (subL_s (subL_s (subL_s (subL_s subL_nil)))) J130
            · rw [if_neg c97] at r111
              refine mw_aload_n (x := (some a0)) dX6_setPosts_114 rfl ?_
              obtain ⟨x98, e99, r111⟩ := ob r111
              refine ml_getQ dX6_setPosts_115 fl_RX6_27 rfl e99 ?_
              refine mw_aload_n (x := (some a0)) dX6_setPosts_118 rfl ?_
              obtain ⟨x100, e101, r111⟩ := ob r111
              refine ml_getI dX6_setPosts_119 fl_RX6_103 rfl e101 ?_
              refine mw_iconst (v := 1) dX6_setPosts_122 (by decide) ?_
              refine mw_isub dX6_setPosts_123 ?_
              refine mw_dup2iq dX6_setPosts_124 ?_
              obtain ⟨x102, e103, r111⟩ := ob r111
              refine ml_iald dX6_setPosts_125 e103 ?_
              refine mw_sipush (v := 9999) dX6_setPosts_126 (by decide) ?_
              refine mw_iadd dX6_setPosts_129 ?_
              obtain ⟨h104, e105, r111⟩ := ob r111
              refine ml_iast dX6_setPosts_130 e105 ?_
              refine mw_aload_n (x := (some a0)) dX6_setPosts_131 rfl ?_
              refine mw_dupq dX6_setPosts_132 ?_
              obtain ⟨x106, e107, r111⟩ := ob r111
              refine ml_getI dX6_setPosts_133 fl_RX6_106 rfl e107 ?_
              refine mw_sipush (v := 9999) dX6_setPosts_136 (by decide) ?_
              refine mw_iadd dX6_setPosts_139 ?_
              obtain ⟨h108, e109, r111⟩ := ob r111
              refine ml_putI dX6_setPosts_140 fl_RX6_106 (Or.inl rfl) rfl rfl e109 ?_
              obtain rfl := y0 r111
              exact MW.sub (subL_s (subL_s (subL_s (subL_s subL_nil)))) J130
      refine mw_icmp_eq (tgt := 87) dX6_setPosts_38 rfl (fun c18 => ?_) (fun c18 => ?_)
      · rw [if_pos c18] at r64
        obtain rfl := y0 r64
        exact MW.sub (subL_s (subL_s (subL_s (subL_s subL_nil)))) J129
      · rw [if_neg c18] at r64
        refine mw_aload_n (x := (some a0)) dX6_setPosts_41 rfl ?_
        obtain ⟨x41, e42, r64⟩ := ob r64
        refine ml_getI dX6_setPosts_42 fl_RX6_103 rfl e42 ?_
        refine mw_if_lt (tgt := 87) dX6_setPosts_45 rfl (fun c43 => ?_) (fun c43 => ?_)
        · rw [if_pos c43] at r64
          obtain rfl := y0 r64
          exact MW.sub (subL_s (subL_s (subL_s (subL_s subL_nil)))) J129
        · rw [if_neg c43] at r64
          refine mw_aload_n (x := (some a0)) dX6_setPosts_48 rfl ?_
          obtain ⟨x44, e45, r64⟩ := ob r64
          refine ml_getI dX6_setPosts_49 fl_RX6_103 rfl e45 ?_
          refine mw_bipush (v := 20) dX6_setPosts_52 (by decide) ?_
          refine mw_icmp_ge (tgt := 87) dX6_setPosts_54 rfl (fun c46 => ?_) (fun c46 => ?_)
          · rw [if_pos c46] at r64
            obtain rfl := y0 r64
            exact MW.sub (subL_s (subL_s (subL_s (subL_s subL_nil)))) J129
          · rw [if_neg c46] at r64
            refine mw_aload_n (x := (some a0)) dX6_setPosts_57 rfl ?_
            obtain ⟨x47, e48, r64⟩ := ob r64
            refine ml_getQ dX6_setPosts_58 fl_RX6_24 rfl e48 ?_
            refine mw_aload_n (x := (some a0)) dX6_setPosts_61 rfl ?_
            obtain ⟨x49, e50, r64⟩ := ob r64
            refine ml_getI dX6_setPosts_62 fl_RX6_103 rfl e50 ?_
            refine mw_iload_n (x := v2) dX6_setPosts_65 rfl ?_
            obtain ⟨h51, e52, r64⟩ := ob r64
            refine ml_iast dX6_setPosts_66 e52 ?_
            refine mw_aload_n (x := (some a0)) dX6_setPosts_67 rfl ?_
            obtain ⟨x53, e54, r64⟩ := ob r64
            refine ml_getQ dX6_setPosts_68 fl_RX6_21 rfl e54 ?_
            refine mw_iload_n (x := v3) dX6_setPosts_71 rfl ?_
            refine mw_aload_n (x := (some a0)) dX6_setPosts_72 rfl ?_
            obtain ⟨x55, e56, r64⟩ := ob r64
            refine ml_getI dX6_setPosts_73 fl_RX6_103 rfl e56 ?_
            obtain ⟨h57, e58, r64⟩ := ob r64
            refine ml_iast dX6_setPosts_76 e58 ?_
            refine mw_aload_n (x := (some a0)) dX6_setPosts_77 rfl ?_
            refine mw_dupq dX6_setPosts_78 ?_
            obtain ⟨x59, e60, r64⟩ := ob r64
            refine ml_getI dX6_setPosts_79 fl_RX6_103 rfl e60 ?_
            refine mw_iconst (v := 1) dX6_setPosts_82 (by decide) ?_
            refine mw_iadd dX6_setPosts_83 ?_
            obtain ⟨h61, e62, r64⟩ := ob r64
            refine ml_putI dX6_setPosts_84 fl_RX6_103 (Or.inl rfl) rfl rfl e62 ?_
            obtain rfl := y0 r64
            exact MW.sub (subL_s (subL_s (subL_s (subL_s subL_nil)))) J129
set_option maxHeartbeats 4000000 in
theorem t_X6_setPosts (E : En) (d : Nat) {mc ms : Nat} {a0 : Nat} {q1 : Option Nat} {h h' : Hp} {K : Option Vv → Hp → Prop} (hf : f_X6_setPosts a0 q1 h = some h') (hk : K none h') : MC E m_X6_setPosts (d + 2) mc ms [vq (some a0), vq q1] h K := by
  unfold f_X6_setPosts at hf
  show MW E m_X6_setPosts (d + 2) mc ms 0 [some (vq (some a0)), some (vq q1), none, none] [] h K
  refine mw_aload_n (x := (some a0)) dX6_setPosts_0 rfl ?_
  refine mw_iconst (v := 0) dX6_setPosts_1 (by decide) ?_
  obtain ⟨h1, e2, hf⟩ := ob hf
  refine ml_putI dX6_setPosts_2 fl_RX6_103 (Or.inl rfl) rfl rfl e2 ?_
  refine mw_aload_n (x := (some a0)) dX6_setPosts_5 rfl ?_
  refine mw_iconst (v := 0) dX6_setPosts_6 (by decide) ?_
  obtain ⟨h3, e4, hf⟩ := ob hf
  refine ml_putI dX6_setPosts_7 fl_RX6_106 (Or.inl rfl) rfl rfl e4 ?_
  refine mw_iconst (v := 0) dX6_setPosts_10 (by decide) ?_
  refine mw_istore_n dX6_setPosts_11 (by decide) rfl ?_
  refine mw_aload_n (x := (some a0)) dX6_setPosts_12 rfl ?_
  obtain ⟨x5, e6, hf⟩ := ob hf
  refine ml_getQ dX6_setPosts_13 fl_RX6_27 rfl e6 ?_
  refine mw_iconst (v := 0) dX6_setPosts_16 (by decide) ?_
  obtain ⟨h7, e8, hf⟩ := ob hf
  refine ml_callS (mc' := 0) (ms' := 0) [vq x5, vi (0 : Int32)] dX6_setPosts_17 mk_J7_fill_53178 lk_RX6_66 st_J7_fill_53178 rfl (Nat.le_of_ble_eq_true rfl) (Nat.le_of_ble_eq_true rfl) (t_J7_fill_53178 E _ e8 isR_rfl) ?_
  refine mw_iconst (v := 0) dX6_setPosts_20 (by decide) ?_
  refine mw_istore_n dX6_setPosts_21 (by decide) rfl ?_
  obtain ⟨h126, e127, hf⟩ := ob hf
  refine MW.sub (subL_s (subL_s (subL_s (subL_s subL_nil)))) (tl_X6_setPosts_22 E d _ _ _ _ _ _ _ e127 ?_)
  obtain rfl := y0 hf
  exact mw_return dX6_setPosts_167 rfl hk
def f_X6_writeSpans_L4 : Nat → Nat → Option Nat → Int32 → Int32 → Hp → Option ((Hp))
  | 0, _, _, _, _, _ => none
  | n + 1, a0, q1, v2, v3, h =>
    if (104 : Int32) ≤ v3 then
      some h
    else
      (getQ h (some a0) 5 4).bind fun x2 =>
      b1 (f_X8_at x2 v3 h) fun x6 h4 =>
      b1 ((if x6 = ((-1) : Int32) then
          some (v2, h4)
        else
          (getQ h4 (some a0) 5 4).bind fun x13 =>
          b1 (f_X8_at x13 v3 h4) fun x17 h15 =>
          some (x17, h15) : Option (Int32 × Hp))) fun w18 h19 =>
      (getQ h19 q1 6 8).bind fun x21 =>
      b1 (f_X8_at x21 v3 h19) fun x25 h23 =>
      Option.bind ((if x25 = (0 : Int32) then
          some h23
        else
          b1 ((if w18 < (0 : Int32) then
              some (0, h23)
            else
              (getI h23 (some a0) 5 8).bind fun x82 =>
              if (x82 - (1 : Int32)) ≤ w18 then
                some (0, h23)
              else
                some (1, h23) : Option (Int32 × Hp))) fun w85 h86 =>
          (getQ h86 (some a0) 5 6).bind fun x88 =>
          b1 (f_X8_at x88 w18 h86) fun x92 h90 =>
          (getQ h90 q1 6 9).bind fun x93 =>
          b1 ((if w85 = (0 : Int32) then
              some (0, h90)
            else
              (getQ h90 (some a0) 5 10).bind fun x101 =>
              b1 (f_X8_at x101 w18 h90) fun x105 h103 =>
              some ((mxI (0 : Int32) (x105 - (x92 - (9999 : Int32)))), h103) : Option (Int32 × Hp))) fun w106 h107 =>
          (wrI h107 x93 v3 w106).bind fun h109 =>
          (getQ h109 q1 6 10).bind fun x111 =>
          b1 ((if w85 = (0 : Int32) then
              some (9999, h109)
            else
              (getQ h109 (some a0) 5 11).bind fun x119 =>
              b1 (f_X8_at x119 w18 h109) fun x123 h121 =>
              some ((mnI (9999 : Int32) x123), h121) : Option (Int32 × Hp))) fun w124 h125 =>
          (wrI h125 x111 v3 w124).bind fun h127 =>
          some h127 : Option (Hp))) fun h129 =>
      f_X6_writeSpans_L4 n a0 q1 w18 (v3 + 1) h129
def f_X6_writeSpans (a0 : Nat) (q1 : Option Nat) (h : Hp) : Option (Hp) :=
  (f_X6_writeSpans_L4 fu a0 q1 (-1) 0 h).bind fun h131 =>
  some h131
set_option maxHeartbeats 4000000 in
theorem tl_X6_writeSpans_4 (E : En) (d : Nat) {mc ms : Nat} {K : Option Vv → Hp → Prop} : ∀ (n : Nat) (a0 : Nat) (q1 : Option Nat) (v2 : Int32) (v3 : Int32) (h : Hp) (hz : Hp), f_X6_writeSpans_L4 n a0 q1 v2 v3 h = some hz → MW E m_X6_writeSpans (d + 1) mc ms 144 [none, none, none, none, none, none] [] hz K → MW E m_X6_writeSpans (d + 1) mc ms 4 [some (vq (some a0)), some (vq q1), some (vi v2), some (vi v3), none, none] [] h K := by
  intro n
  induction n with
  | zero => intro a0 q1 v2 v3 h hz hf; exact nomatch (show none = some _ from hf)
  | succ n ih =>
    intro a0 q1 v2 v3 h hz hf hX144
    rw [f_X6_writeSpans_L4] at hf
    refine mw_iload_n (x := v3) dX6_writeSpans_4 rfl ?_
    refine mw_bipush (v := 104) dX6_writeSpans_5 (by decide) ?_
    refine mw_icmp_ge (tgt := 144) dX6_writeSpans_7 rfl (fun c1 => ?_) (fun c1 => ?_)
    · rw [if_pos c1] at hf
      obtain rfl := y0 hf
      exact MW.sub (subL_n (subL_n (subL_n (subL_n (subL_n (subL_n subL_nil)))))) hX144
    · rw [if_neg c1] at hf
      refine mw_aload_n (x := (some a0)) dX6_writeSpans_10 rfl ?_
      obtain ⟨x2, e3, hf⟩ := ob hf
      refine ml_getQ dX6_writeSpans_11 fl_RX6_21 rfl e3 ?_
      refine mw_iload_n (x := v3) dX6_writeSpans_14 rfl ?_
      obtain ⟨x6, h4, e5, hf⟩ := ob1 hf
      refine ml_callSN (mc' := 0) (ms' := 0) [vq x2, vi v3] dX6_writeSpans_15 mk_X8_at lk_RX6_51 st_X8_at rfl (Nat.le_of_ble_eq_true rfl) (Nat.le_of_ble_eq_true rfl) (t_X8_at E _ e5 isR_rfl) ?_
      refine mw_iconst (v := (-1)) dX6_writeSpans_18 (by decide) ?_
      obtain ⟨w18, h19, r20, hf⟩ := ob1 hf
      have J134 : MW E m_X6_writeSpans (d + 1) mc ms 31 [some (vq (some a0)), some (vq q1), some (vi w18), some (vi v3), none, none] [] h19 K := by
        refine mw_aload_n (x := q1) dX6_writeSpans_31 rfl ?_
        obtain ⟨x21, e22, hf⟩ := ob hf
        refine ml_getQ dX6_writeSpans_32 fl_RX6_109 rfl e22 ?_
        refine mw_iload_n (x := v3) dX6_writeSpans_35 rfl ?_
        obtain ⟨x25, h23, e24, hf⟩ := ob1 hf
        refine ml_callSN (mc' := 0) (ms' := 0) [vq x21, vi v3] dX6_writeSpans_36 mk_X8_at lk_RX6_51 st_X8_at rfl (Nat.le_of_ble_eq_true rfl) (Nat.le_of_ble_eq_true rfl) (t_X8_at E _ e24 isR_rfl) ?_
        obtain ⟨h129, r130, hf⟩ := ob hf
        have J135 : MW E m_X6_writeSpans (d + 1) mc ms 138 [some (vq (some a0)), some (vq q1), some (vi w18), some (vi v3), none, none] [] h129 K := by
          refine mw_iinc (x := v3) (v := v3 + 1) dX6_writeSpans_138 rfl rfl (by decide) rfl ?_
          refine mw_goto (tgt := 4) dX6_writeSpans_141 rfl ?_
          exact MW.sub (subL_s (subL_s (subL_s (subL_s (subL_n (subL_n subL_nil)))))) (ih _ _ _ _ _ _ hf hX144)
        refine mw_if_eq (tgt := 138) dX6_writeSpans_39 rfl (fun c26 => ?_) (fun c26 => ?_)
        · rw [if_pos c26] at r130
          obtain rfl := y0 r130
          exact MW.sub (subL_s (subL_s (subL_s (subL_s (subL_n (subL_n subL_nil)))))) J135
        · rw [if_neg c26] at r130
          refine mw_iload_n (x := w18) dX6_writeSpans_42 rfl ?_
          obtain ⟨w85, h86, r87, r130⟩ := ob1 r130
          have J136 : MW E m_X6_writeSpans (d + 1) mc ms 61 [some (vq (some a0)), some (vq q1), some (vi w18), some (vi v3), none, none] [vi w85] h86 K := by
            refine mw_istore dX6_writeSpans_61 (by decide) rfl ?_
            refine mw_aload_n (x := (some a0)) dX6_writeSpans_63 rfl ?_
            obtain ⟨x88, e89, r130⟩ := ob r130
            refine ml_getQ dX6_writeSpans_64 fl_RX6_27 rfl e89 ?_
            refine mw_iload_n (x := w18) dX6_writeSpans_67 rfl ?_
            obtain ⟨x92, h90, e91, r130⟩ := ob1 r130
            refine ml_callSN (mc' := 0) (ms' := 0) [vq x88, vi w18] dX6_writeSpans_68 mk_X8_at lk_RX6_51 st_X8_at rfl (Nat.le_of_ble_eq_true rfl) (Nat.le_of_ble_eq_true rfl) (t_X8_at E _ e91 isR_rfl) ?_
            refine mw_sipush (v := 9999) dX6_writeSpans_71 (by decide) ?_
            refine mw_isub dX6_writeSpans_74 ?_
            refine mw_istore dX6_writeSpans_75 (by decide) rfl ?_
            refine mw_aload_n (x := q1) dX6_writeSpans_77 rfl ?_
            obtain ⟨x93, e94, r130⟩ := ob r130
            refine ml_getQ dX6_writeSpans_78 fl_RX6_137 rfl e94 ?_
            refine mw_iload_n (x := v3) dX6_writeSpans_81 rfl ?_
            refine mw_iload (x := w85) dX6_writeSpans_82 rfl ?_
            obtain ⟨w106, h107, r108, r130⟩ := ob1 r130
            have J137 : MW E m_X6_writeSpans (d + 1) mc ms 106 [some (vq (some a0)), some (vq q1), some (vi w18), some (vi v3), some (vi w85), none] [vi w106, vi v3, vq x93] h107 K := by
              obtain ⟨h109, e110, r130⟩ := ob r130
              refine ml_iast dX6_writeSpans_106 e110 ?_
              refine mw_aload_n (x := q1) dX6_writeSpans_107 rfl ?_
              obtain ⟨x111, e112, r130⟩ := ob r130
              refine ml_getQ dX6_writeSpans_108 fl_RX6_146 rfl e112 ?_
              refine mw_iload_n (x := v3) dX6_writeSpans_111 rfl ?_
              refine mw_iload (x := w85) dX6_writeSpans_112 rfl ?_
              obtain ⟨w124, h125, r126, r130⟩ := ob1 r130
              have J138 : MW E m_X6_writeSpans (d + 1) mc ms 137 [some (vq (some a0)), some (vq q1), some (vi w18), some (vi v3), none, none] [vi w124, vi v3, vq x111] h125 K := by
                obtain ⟨h127, e128, r130⟩ := ob r130
                refine ml_iast dX6_writeSpans_137 e128 ?_
                obtain rfl := y0 r130
                exact MW.sub (subL_s (subL_s (subL_s (subL_s (subL_n (subL_n subL_nil)))))) J135
              refine mw_if_eq (tgt := 134) dX6_writeSpans_114 rfl (fun c113 => ?_) (fun c113 => ?_)
              · rw [if_pos c113] at r126
                refine mw_sipush (v := 9999) dX6_writeSpans_134 (by decide) ?_
                obtain ⟨rfl, rfl⟩ := y1 r126
                exact MW.sub (subL_s (subL_s (subL_s (subL_s (subL_n (subL_n subL_nil)))))) J138
              · rw [if_neg c113] at r126
                refine mw_sipush (v := 9999) dX6_writeSpans_117 (by decide) ?_
                refine mw_aload_n (x := (some a0)) dX6_writeSpans_120 rfl ?_
                obtain ⟨x119, e120, r126⟩ := ob r126
                refine ml_getQ dX6_writeSpans_121 fl_RX6_36 rfl e120 ?_
                refine mw_iload_n (x := w18) dX6_writeSpans_124 rfl ?_
                obtain ⟨x123, h121, e122, r126⟩ := ob1 r126
                refine ml_callSN (mc' := 0) (ms' := 0) [vq x119, vi w18] dX6_writeSpans_125 mk_X8_at lk_RX6_51 st_X8_at rfl (Nat.le_of_ble_eq_true rfl) (Nat.le_of_ble_eq_true rfl) (t_X8_at E _ e122 isR_rfl) ?_
                refine ml_min dX6_writeSpans_128 lk_RX6_149 (Nat.le_of_ble_eq_true rfl) ?_
                refine mw_goto (tgt := 137) dX6_writeSpans_131 rfl ?_
                obtain ⟨rfl, rfl⟩ := y1 r126
                exact MW.sub (subL_s (subL_s (subL_s (subL_s (subL_n (subL_n subL_nil)))))) J138
            refine mw_if_eq (tgt := 105) dX6_writeSpans_84 rfl (fun c95 => ?_) (fun c95 => ?_)
            · rw [if_pos c95] at r108
              refine mw_iconst (v := 0) dX6_writeSpans_105 (by decide) ?_
              obtain ⟨rfl, rfl⟩ := y1 r108
              exact MW.sub (subL_s (subL_s (subL_s (subL_s (subL_s (subL_n subL_nil)))))) J137
            · rw [if_neg c95] at r108
              refine mw_iconst (v := 0) dX6_writeSpans_87 (by decide) ?_
              refine mw_aload_n (x := (some a0)) dX6_writeSpans_88 rfl ?_
              obtain ⟨x101, e102, r108⟩ := ob r108
              refine ml_getQ dX6_writeSpans_89 fl_RX6_33 rfl e102 ?_
              refine mw_iload_n (x := w18) dX6_writeSpans_92 rfl ?_
              obtain ⟨x105, h103, e104, r108⟩ := ob1 r108
              refine ml_callSN (mc' := 0) (ms' := 0) [vq x101, vi w18] dX6_writeSpans_93 mk_X8_at lk_RX6_51 st_X8_at rfl (Nat.le_of_ble_eq_true rfl) (Nat.le_of_ble_eq_true rfl) (t_X8_at E _ e104 isR_rfl) ?_
              refine mw_iload (x := (x92 - (9999 : Int32))) dX6_writeSpans_96 rfl ?_
              refine mw_isub dX6_writeSpans_98 ?_
              refine ml_max dX6_writeSpans_99 lk_RX6_140 (Nat.le_of_ble_eq_true rfl) ?_
              refine mw_goto (tgt := 106) dX6_writeSpans_102 rfl ?_
              obtain ⟨rfl, rfl⟩ := y1 r108
              exact MW.sub (subL_s (subL_s (subL_s (subL_s (subL_s (subL_n subL_nil)))))) J137
          refine mw_if_lt (tgt := 60) dX6_writeSpans_43 rfl (fun c78 => ?_) (fun c78 => ?_)
          · rw [if_pos c78] at r87
            refine mw_iconst (v := 0) dX6_writeSpans_60 (by decide) ?_
            obtain ⟨rfl, rfl⟩ := y1 r87
            exact MW.sub (subL_s (subL_s (subL_s (subL_s (subL_n (subL_n subL_nil)))))) J136
          · rw [if_neg c78] at r87
            refine mw_iload_n (x := w18) dX6_writeSpans_46 rfl ?_
            refine mw_aload_n (x := (some a0)) dX6_writeSpans_47 rfl ?_
            obtain ⟨x82, e83, r87⟩ := ob r87
            refine ml_getI dX6_writeSpans_48 fl_RX6_103 rfl e83 ?_
            refine mw_iconst (v := 1) dX6_writeSpans_51 (by decide) ?_
            refine mw_isub dX6_writeSpans_52 ?_
            refine mw_icmp_ge (tgt := 60) dX6_writeSpans_53 rfl (fun c84 => ?_) (fun c84 => ?_)
            · rw [if_pos c84] at r87
              refine mw_iconst (v := 0) dX6_writeSpans_60 (by decide) ?_
              obtain ⟨rfl, rfl⟩ := y1 r87
              exact MW.sub (subL_s (subL_s (subL_s (subL_s (subL_n (subL_n subL_nil)))))) J136
            · rw [if_neg c84] at r87
              refine mw_iconst (v := 1) dX6_writeSpans_56 (by decide) ?_
              refine mw_goto (tgt := 61) dX6_writeSpans_57 rfl ?_
              obtain ⟨rfl, rfl⟩ := y1 r87
              exact MW.sub (subL_s (subL_s (subL_s (subL_s (subL_n (subL_n subL_nil)))))) J136
      refine mw_icmp_eq (tgt := 31) dX6_writeSpans_19 rfl (fun c7 => ?_) (fun c7 => ?_)
      · rw [if_pos c7] at r20
        obtain ⟨rfl, rfl⟩ := y1 r20
        exact MW.sub (subL_s (subL_s (subL_s (subL_s (subL_n (subL_n subL_nil)))))) J134
      · rw [if_neg c7] at r20
        refine mw_aload_n (x := (some a0)) dX6_writeSpans_22 rfl ?_
        obtain ⟨x13, e14, r20⟩ := ob r20
        refine ml_getQ dX6_writeSpans_23 fl_RX6_21 rfl e14 ?_
        refine mw_iload_n (x := v3) dX6_writeSpans_26 rfl ?_
        obtain ⟨x17, h15, e16, r20⟩ := ob1 r20
        refine ml_callSN (mc' := 0) (ms' := 0) [vq x13, vi v3] dX6_writeSpans_27 mk_X8_at lk_RX6_51 st_X8_at rfl (Nat.le_of_ble_eq_true rfl) (Nat.le_of_ble_eq_true rfl) (t_X8_at E _ e16 isR_rfl) ?_
        refine mw_istore_n dX6_writeSpans_30 (by decide) rfl ?_
        obtain ⟨rfl, rfl⟩ := y1 r20
        exact MW.sub (subL_s (subL_s (subL_s (subL_s (subL_n (subL_n subL_nil)))))) J134
set_option maxHeartbeats 4000000 in
theorem t_X6_writeSpans (E : En) (d : Nat) {mc ms : Nat} {a0 : Nat} {q1 : Option Nat} {h h' : Hp} {K : Option Vv → Hp → Prop} (hf : f_X6_writeSpans a0 q1 h = some h') (hk : K none h') : MC E m_X6_writeSpans (d + 1) mc ms [vq (some a0), vq q1] h K := by
  unfold f_X6_writeSpans at hf
  show MW E m_X6_writeSpans (d + 1) mc ms 0 [some (vq (some a0)), some (vq q1), none, none, none, none] [] h K
  refine mw_iconst (v := (-1)) dX6_writeSpans_0 (by decide) ?_
  refine mw_istore_n dX6_writeSpans_1 (by decide) rfl ?_
  refine mw_iconst (v := 0) dX6_writeSpans_2 (by decide) ?_
  refine mw_istore_n dX6_writeSpans_3 (by decide) rfl ?_
  obtain ⟨h131, e132, hf⟩ := ob hf
  refine MW.sub (subL_s (subL_s (subL_s (subL_s (subL_n (subL_n subL_nil)))))) (tl_X6_writeSpans_4 E d _ _ _ _ _ _ _ e132 ?_)
  obtain rfl := y0 hf
  exact mw_return dX6_writeSpans_144 rfl hk
def f_X6_spread_L13 : Nat → Nat → Option Nat → Int32 → Hp → Option ((Hp))
  | 0, _, _, _, _ => none
  | n + 1, a0, q1, v3, h =>
    (getI h (some a0) 5 3).bind fun x9 =>
    if x9 ≤ v3 then
      some h
    else
      (getQ h (some a0) 5 2).bind fun x12 =>
      (aln h x12 10).bind fun x14 =>
      if x14 ≤ v3 then
        some h
      else
        (getQ h (some a0) 5 0).bind fun x17 =>
        (getQ h (some a0) 5 4).bind fun x19 =>
        (getQ h (some a0) 5 0).bind fun x21 =>
        (rdI h x21 10 v3).bind fun x23 =>
        b1 (f_X8_at x19 x23 h) fun x27 h25 =>
        (wrI h25 x17 v3 x27).bind fun h28 =>
        (getQ h28 (some a0) 5 1).bind fun x30 =>
        (getQ h28 (some a0) 5 4).bind fun x32 =>
        (getQ h28 (some a0) 5 1).bind fun x34 =>
        (rdI h28 x34 10 v3).bind fun x36 =>
        b1 (f_X8_at x32 x36 h28) fun x40 h38 =>
        (wrI h38 x30 v3 x40).bind fun h41 =>
        (getQ h41 (some a0) 5 2).bind fun x43 =>
        (rdI h41 x43 10 v3).bind fun x45 =>
        (getQ h41 (some a0) 5 5).bind fun x47 =>
        (getQ h41 (some a0) 5 1).bind fun x49 =>
        (rdI h41 x49 10 v3).bind fun x51 =>
        b1 (f_X8_at x47 x51 h41) fun x55 h53 =>
        (getQ h53 (some a0) 5 5).bind fun x56 =>
        (getQ h53 (some a0) 5 0).bind fun x58 =>
        (rdI h53 x58 10 v3).bind fun x60 =>
        b1 (f_X8_at x56 x60 h53) fun x64 h62 =>
        (wrI h62 x43 v3 (x45 - (x55 - x64))).bind fun h65 =>
        f_X6_spread_L13 n a0 q1 (v3 + 1) h65
def f_X6_spread (a0 : Nat) (q1 : Option Nat) (v2 : Int32) (h : Hp) : Option (Int32 × Hp) :=
  (rc h (some a0) 5).bind fun g3 =>
  (f_X6_gather g3 q1 v2 h).bind fun h1 =>
  (rc h1 (some a0) 5).bind fun g7 =>
  (f_X6_setPosts g7 q1 h1).bind fun h5 =>
  (f_X6_spread_L13 fu a0 q1 0 h5).bind fun h67 =>
  (rc h67 (some a0) 5).bind fun g70 =>
  b1 (f_X6_leaveOut g70 h67) fun x72 h68 =>
  b1 ((if x72 = ((-1) : Int32) then
      (getI h68 (some a0) 5 3).bind fun x76 =>
      some ((((1 : Int32) <<< (x76 &&& 31)) - (1 : Int32)), h68)
    else
      some (x72, h68) : Option (Int32 × Hp))) fun w78 h79 =>
  (rc h79 (some a0) 5).bind fun g83 =>
  (f_X6_boundGaps g83 w78 h79).bind fun h81 =>
  (rc h81 (some a0) 5).bind fun g87 =>
  (f_X6_writeSpans g87 q1 h81).bind fun h85 =>
  some (x72, h85)
set_option maxHeartbeats 4000000 in
theorem tl_X6_spread_13 (E : En) (d : Nat) {mc ms : Nat} {K : Option Vv → Hp → Prop} : ∀ (n : Nat) (a0 : Nat) (q1 : Option Nat) (v3 : Int32) (h : Hp) (hz : Hp), f_X6_spread_L13 n a0 q1 v3 h = some hz → MW E m_X6_spread (d + 3) mc ms 110 [some (vq (some a0)), some (vq q1), none, none] [] hz K → MW E m_X6_spread (d + 3) mc ms 13 [some (vq (some a0)), some (vq q1), none, some (vi v3)] [] h K := by
  intro n
  induction n with
  | zero => intro a0 q1 v3 h hz hf; exact nomatch (show none = some _ from hf)
  | succ n ih =>
    intro a0 q1 v3 h hz hf hX110
    rw [f_X6_spread_L13] at hf
    refine mw_iload_n (x := v3) dX6_spread_13 rfl ?_
    refine mw_aload_n (x := (some a0)) dX6_spread_14 rfl ?_
    obtain ⟨x9, e10, hf⟩ := ob hf
    refine ml_getI dX6_spread_15 fl_RX6_47 rfl e10 ?_
    refine mw_icmp_ge (tgt := 110) dX6_spread_18 rfl (fun c11 => ?_) (fun c11 => ?_)
    · rw [if_pos c11] at hf
      obtain rfl := y0 hf
      exact MW.sub (subL_s (subL_s (subL_n (subL_n subL_nil)))) hX110
    · rw [if_neg c11] at hf
      refine mw_iload_n (x := v3) dX6_spread_21 rfl ?_
      refine mw_aload_n (x := (some a0)) dX6_spread_22 rfl ?_
      obtain ⟨x12, e13, hf⟩ := ob hf
      refine ml_getQ dX6_spread_23 fl_RX6_18 rfl e13 ?_
      obtain ⟨x14, e15, hf⟩ := ob hf
      refine ml_alen dX6_spread_26 e15 (by decide) (by decide) ?_
      refine mw_icmp_ge (tgt := 110) dX6_spread_27 rfl (fun c16 => ?_) (fun c16 => ?_)
      · rw [if_pos c16] at hf
        obtain rfl := y0 hf
        exact MW.sub (subL_s (subL_s (subL_n (subL_n subL_nil)))) hX110
      · rw [if_neg c16] at hf
        refine mw_aload_n (x := (some a0)) dX6_spread_30 rfl ?_
        obtain ⟨x17, e18, hf⟩ := ob hf
        refine ml_getQ dX6_spread_31 fl_RX6_9 rfl e18 ?_
        refine mw_iload_n (x := v3) dX6_spread_34 rfl ?_
        refine mw_aload_n (x := (some a0)) dX6_spread_35 rfl ?_
        obtain ⟨x19, e20, hf⟩ := ob hf
        refine ml_getQ dX6_spread_36 fl_RX6_21 rfl e20 ?_
        refine mw_aload_n (x := (some a0)) dX6_spread_39 rfl ?_
        obtain ⟨x21, e22, hf⟩ := ob hf
        refine ml_getQ dX6_spread_40 fl_RX6_9 rfl e22 ?_
        refine mw_iload_n (x := v3) dX6_spread_43 rfl ?_
        obtain ⟨x23, e24, hf⟩ := ob hf
        refine ml_iald dX6_spread_44 e24 ?_
        obtain ⟨x27, h25, e26, hf⟩ := ob1 hf
        refine ml_callSN (mc' := 0) (ms' := 0) [vq x19, vi x23] dX6_spread_45 mk_X8_at lk_RX6_51 st_X8_at rfl (Nat.le_of_ble_eq_true rfl) (Nat.le_of_ble_eq_true rfl) (t_X8_at E _ e26 isR_rfl) ?_
        obtain ⟨h28, e29, hf⟩ := ob hf
        refine ml_iast dX6_spread_48 e29 ?_
        refine mw_aload_n (x := (some a0)) dX6_spread_49 rfl ?_
        obtain ⟨x30, e31, hf⟩ := ob hf
        refine ml_getQ dX6_spread_50 fl_RX6_15 rfl e31 ?_
        refine mw_iload_n (x := v3) dX6_spread_53 rfl ?_
        refine mw_aload_n (x := (some a0)) dX6_spread_54 rfl ?_
        obtain ⟨x32, e33, hf⟩ := ob hf
        refine ml_getQ dX6_spread_55 fl_RX6_21 rfl e33 ?_
        refine mw_aload_n (x := (some a0)) dX6_spread_58 rfl ?_
        obtain ⟨x34, e35, hf⟩ := ob hf
        refine ml_getQ dX6_spread_59 fl_RX6_15 rfl e35 ?_
        refine mw_iload_n (x := v3) dX6_spread_62 rfl ?_
        obtain ⟨x36, e37, hf⟩ := ob hf
        refine ml_iald dX6_spread_63 e37 ?_
        obtain ⟨x40, h38, e39, hf⟩ := ob1 hf
        refine ml_callSN (mc' := 0) (ms' := 0) [vq x32, vi x36] dX6_spread_64 mk_X8_at lk_RX6_51 st_X8_at rfl (Nat.le_of_ble_eq_true rfl) (Nat.le_of_ble_eq_true rfl) (t_X8_at E _ e39 isR_rfl) ?_
        obtain ⟨h41, e42, hf⟩ := ob hf
        refine ml_iast dX6_spread_67 e42 ?_
        refine mw_aload_n (x := (some a0)) dX6_spread_68 rfl ?_
        obtain ⟨x43, e44, hf⟩ := ob hf
        refine ml_getQ dX6_spread_69 fl_RX6_18 rfl e44 ?_
        refine mw_iload_n (x := v3) dX6_spread_72 rfl ?_
        refine mw_dup2iq dX6_spread_73 ?_
        obtain ⟨x45, e46, hf⟩ := ob hf
        refine ml_iald dX6_spread_74 e46 ?_
        refine mw_aload_n (x := (some a0)) dX6_spread_75 rfl ?_
        obtain ⟨x47, e48, hf⟩ := ob hf
        refine ml_getQ dX6_spread_76 fl_RX6_24 rfl e48 ?_
        refine mw_aload_n (x := (some a0)) dX6_spread_79 rfl ?_
        obtain ⟨x49, e50, hf⟩ := ob hf
        refine ml_getQ dX6_spread_80 fl_RX6_15 rfl e50 ?_
        refine mw_iload_n (x := v3) dX6_spread_83 rfl ?_
        obtain ⟨x51, e52, hf⟩ := ob hf
        refine ml_iald dX6_spread_84 e52 ?_
        obtain ⟨x55, h53, e54, hf⟩ := ob1 hf
        refine ml_callSN (mc' := 0) (ms' := 0) [vq x47, vi x51] dX6_spread_85 mk_X8_at lk_RX6_51 st_X8_at rfl (Nat.le_of_ble_eq_true rfl) (Nat.le_of_ble_eq_true rfl) (t_X8_at E _ e54 isR_rfl) ?_
        refine mw_aload_n (x := (some a0)) dX6_spread_88 rfl ?_
        obtain ⟨x56, e57, hf⟩ := ob hf
        refine ml_getQ dX6_spread_89 fl_RX6_24 rfl e57 ?_
        refine mw_aload_n (x := (some a0)) dX6_spread_92 rfl ?_
        obtain ⟨x58, e59, hf⟩ := ob hf
        refine ml_getQ dX6_spread_93 fl_RX6_9 rfl e59 ?_
        refine mw_iload_n (x := v3) dX6_spread_96 rfl ?_
        obtain ⟨x60, e61, hf⟩ := ob hf
        refine ml_iald dX6_spread_97 e61 ?_
        obtain ⟨x64, h62, e63, hf⟩ := ob1 hf
        refine ml_callSN (mc' := 0) (ms' := 0) [vq x56, vi x60] dX6_spread_98 mk_X8_at lk_RX6_51 st_X8_at rfl (Nat.le_of_ble_eq_true rfl) (Nat.le_of_ble_eq_true rfl) (t_X8_at E _ e63 isR_rfl) ?_
        refine mw_isub dX6_spread_101 ?_
        refine mw_isub dX6_spread_102 ?_
        obtain ⟨h65, e66, hf⟩ := ob hf
        refine ml_iast dX6_spread_103 e66 ?_
        refine mw_iinc (x := v3) (v := v3 + 1) dX6_spread_104 rfl rfl (by decide) rfl ?_
        refine mw_goto (tgt := 13) dX6_spread_107 rfl ?_
        exact MW.sub (subL_s (subL_s (subL_n (subL_s subL_nil)))) (ih _ _ _ _ _ hf hX110)
set_option maxHeartbeats 4000000 in
theorem t_X6_spread (E : En) (d : Nat) {mc ms : Nat} {a0 : Nat} {q1 : Option Nat} {v2 : Int32} {h h' : Hp} {r : Int32} {K : Option Vv → Hp → Prop} (hf : f_X6_spread a0 q1 v2 h = some (r, h')) (hk : K (some (vi r)) h') : MC E m_X6_spread (d + 3) mc ms [vq (some a0), vq q1, vi v2] h K := by
  unfold f_X6_spread at hf
  show MW E m_X6_spread (d + 3) mc ms 0 [some (vq (some a0)), some (vq q1), some (vi v2), none] [] h K
  refine mw_aload_n (x := (some a0)) dX6_spread_0 rfl ?_
  refine mw_aload_n (x := q1) dX6_spread_1 rfl ?_
  refine mw_iload_n (x := v2) dX6_spread_2 rfl ?_
  obtain ⟨g3, e4, hf⟩ := ob hf
  obtain ⟨h1, e2, hf⟩ := ob hf
  refine ml_callV (ci := 5) (mc' := 0) (ms' := 0) [vq q1, vi v2] dX6_spread_3 mk_X6_gather lk_RX6_39 im_X6_gather se_X6_gather (by decide) e4 rfl (Nat.le_of_ble_eq_true rfl) (Nat.le_of_ble_eq_true rfl) (t_X6_gather E _ e2 isR_rfl) ?_
  refine mw_aload_n (x := (some a0)) dX6_spread_6 rfl ?_
  refine mw_aload_n (x := q1) dX6_spread_7 rfl ?_
  obtain ⟨g7, e8, hf⟩ := ob hf
  obtain ⟨h5, e6, hf⟩ := ob hf
  refine ml_callV (ci := 5) (mc' := 0) (ms' := 0) [vq q1] dX6_spread_8 mk_X6_setPosts lk_RX6_43 im_X6_setPosts se_X6_setPosts (by decide) e8 rfl (Nat.le_of_ble_eq_true rfl) (Nat.le_of_ble_eq_true rfl) (t_X6_setPosts E _ e6 isR_rfl) ?_
  refine mw_iconst (v := 0) dX6_spread_11 (by decide) ?_
  refine mw_istore_n dX6_spread_12 (by decide) rfl ?_
  obtain ⟨h67, e89, hf⟩ := ob hf
  refine MW.sub (subL_s (subL_s (subL_n (subL_s subL_nil)))) (tl_X6_spread_13 E d _ _ _ _ _ _ e89 ?_)
  refine mw_aload_n (x := (some a0)) dX6_spread_110 rfl ?_
  obtain ⟨g70, e71, hf⟩ := ob hf
  obtain ⟨x72, h68, e69, hf⟩ := ob1 hf
  refine ml_callV (ci := 5) (mc' := 0) (ms' := 0) [] dX6_spread_111 mk_X6_leaveOut lk_RX6_55 im_X6_leaveOut se_X6_leaveOut (by decide) e71 rfl (Nat.le_of_ble_eq_true rfl) (Nat.le_of_ble_eq_true rfl) (t_X6_leaveOut E _ e69 isR_rfl) ?_
  refine mw_istore_n dX6_spread_114 (by decide) rfl ?_
  refine mw_aload_n (x := (some a0)) dX6_spread_115 rfl ?_
  refine mw_iload_n (x := x72) dX6_spread_116 rfl ?_
  refine mw_iconst (v := (-1)) dX6_spread_117 (by decide) ?_
  obtain ⟨w78, h79, r80, hf⟩ := ob1 hf
  have J91 : MW E m_X6_spread (d + 3) mc ms 133 [some (vq (some a0)), some (vq q1), none, some (vi x72)] [vi w78, vq (some a0)] h79 K := by
    obtain ⟨g83, e84, hf⟩ := ob hf
    obtain ⟨h81, e82, hf⟩ := ob hf
    refine ml_callV (ci := 5) (mc' := 0) (ms' := 0) [vi w78] dX6_spread_133 mk_X6_boundGaps lk_RX6_59 im_X6_boundGaps se_X6_boundGaps (by decide) e84 rfl (Nat.le_of_ble_eq_true rfl) (Nat.le_of_ble_eq_true rfl) (t_X6_boundGaps E _ e82 isR_rfl) ?_
    refine mw_aload_n (x := (some a0)) dX6_spread_136 rfl ?_
    refine mw_aload_n (x := q1) dX6_spread_137 rfl ?_
    obtain ⟨g87, e88, hf⟩ := ob hf
    obtain ⟨h85, e86, hf⟩ := ob hf
    refine ml_callV (ci := 5) (mc' := 0) (ms' := 0) [vq q1] dX6_spread_138 mk_X6_writeSpans lk_RX6_63 im_X6_writeSpans se_X6_writeSpans (by decide) e88 rfl (Nat.le_of_ble_eq_true rfl) (Nat.le_of_ble_eq_true rfl) (t_X6_writeSpans E _ e86 isR_rfl) ?_
    refine mw_iload_n (x := x72) dX6_spread_141 rfl ?_
    obtain ⟨rfl, rfl⟩ := y1 hf
    exact mw_ireturn dX6_spread_142 rfl rfl hk
  refine mw_icmp_ne (tgt := 132) dX6_spread_118 rfl (fun c73 => ?_) (fun c73 => ?_)
  · rw [if_neg c73] at r80
    refine mw_iload_n (x := x72) dX6_spread_132 rfl ?_
    obtain ⟨rfl, rfl⟩ := y1 r80
    exact MW.sub (subL_s (subL_s (subL_n (subL_s subL_nil)))) J91
  · rw [if_pos c73] at r80
    refine mw_iconst (v := 1) dX6_spread_121 (by decide) ?_
    refine mw_aload_n (x := (some a0)) dX6_spread_122 rfl ?_
    obtain ⟨x76, e77, r80⟩ := ob r80
    refine ml_getI dX6_spread_123 fl_RX6_47 rfl e77 ?_
    refine mw_ishl dX6_spread_126 ?_
    refine mw_iconst (v := 1) dX6_spread_127 (by decide) ?_
    refine mw_isub dX6_spread_128 ?_
    refine mw_goto (tgt := 133) dX6_spread_129 rfl ?_
    obtain ⟨rfl, rfl⟩ := y1 r80
    exact MW.sub (subL_s (subL_s (subL_n (subL_s subL_nil)))) J91
def f_X7_forget_L2 : Nat → Nat → Int32 → Hp → Option ((Hp))
  | 0, _, _, _ => none
  | n + 1, a0, v2, h =>
    if v2 < (0 : Int32) then
      some h
    else
      (getQ h (some a0) 6 7).bind fun x2 =>
      (aln h x2 10).bind fun x4 =>
      if x4 ≤ v2 then
        some h
      else
        (getQ h (some a0) 6 7).bind fun x7 =>
        (wrI h x7 v2 0).bind fun h9 =>
        f_X7_forget_L2 n a0 (v2 + 104) h9
def f_X7_forget (a0 : Nat) (v1 : Int32) (h : Hp) : Option (Hp) :=
  (f_X7_forget_L2 fu a0 v1 h).bind fun h11 =>
  some h11
set_option maxHeartbeats 4000000 in
theorem tl_X7_forget_2 (E : En) (d : Nat) {mc ms : Nat} {K : Option Vv → Hp → Prop} : ∀ (n : Nat) (a0 : Nat) (v2 : Int32) (h : Hp) (hz : Hp), f_X7_forget_L2 n a0 v2 h = some hz → MW E m_X7_forget (d + 0) mc ms 28 [none, none, none] [] hz K → MW E m_X7_forget (d + 0) mc ms 2 [some (vq (some a0)), none, some (vi v2)] [] h K := by
  intro n
  induction n with
  | zero => intro a0 v2 h hz hf; exact nomatch (show none = some _ from hf)
  | succ n ih =>
    intro a0 v2 h hz hf hX28
    rw [f_X7_forget_L2] at hf
    refine mw_iload_n (x := v2) dX7_forget_2 rfl ?_
    refine mw_if_lt (tgt := 28) dX7_forget_3 rfl (fun c1 => ?_) (fun c1 => ?_)
    · rw [if_pos c1] at hf
      obtain rfl := y0 hf
      exact MW.sub (subL_n (subL_n (subL_n subL_nil))) hX28
    · rw [if_neg c1] at hf
      refine mw_iload_n (x := v2) dX7_forget_6 rfl ?_
      refine mw_aload_n (x := (some a0)) dX7_forget_7 rfl ?_
      obtain ⟨x2, e3, hf⟩ := ob hf
      refine ml_getQ dX7_forget_8 fl_RX7_9 rfl e3 ?_
      obtain ⟨x4, e5, hf⟩ := ob hf
      refine ml_alen dX7_forget_11 e5 (by decide) (by decide) ?_
      refine mw_icmp_ge (tgt := 28) dX7_forget_12 rfl (fun c6 => ?_) (fun c6 => ?_)
      · rw [if_pos c6] at hf
        obtain rfl := y0 hf
        exact MW.sub (subL_n (subL_n (subL_n subL_nil))) hX28
      · rw [if_neg c6] at hf
        refine mw_aload_n (x := (some a0)) dX7_forget_15 rfl ?_
        obtain ⟨x7, e8, hf⟩ := ob hf
        refine ml_getQ dX7_forget_16 fl_RX7_9 rfl e8 ?_
        refine mw_iload_n (x := v2) dX7_forget_19 rfl ?_
        refine mw_iconst (v := 0) dX7_forget_20 (by decide) ?_
        obtain ⟨h9, e10, hf⟩ := ob hf
        refine ml_iast dX7_forget_21 e10 ?_
        refine mw_iinc (x := v2) (v := v2 + 104) dX7_forget_22 rfl rfl (by decide) rfl ?_
        refine mw_goto (tgt := 2) dX7_forget_25 rfl ?_
        exact MW.sub (subL_s (subL_n (subL_s subL_nil))) (ih _ _ _ _ hf hX28)
set_option maxHeartbeats 4000000 in
theorem t_X7_forget (E : En) (d : Nat) {mc ms : Nat} {a0 : Nat} {v1 : Int32} {h h' : Hp} {K : Option Vv → Hp → Prop} (hf : f_X7_forget a0 v1 h = some h') (hk : K none h') : MC E m_X7_forget (d + 0) mc ms [vq (some a0), vi v1] h K := by
  unfold f_X7_forget at hf
  show MW E m_X7_forget (d + 0) mc ms 0 [some (vq (some a0)), some (vi v1), none] [] h K
  refine mw_iload_n (x := v1) dX7_forget_0 rfl ?_
  refine mw_istore_n dX7_forget_1 (by decide) rfl ?_
  obtain ⟨h11, e12, hf⟩ := ob hf
  refine MW.sub (subL_s (subL_n (subL_s subL_nil))) (tl_X7_forget_2 E d _ _ _ _ _ e12 ?_)
  obtain rfl := y0 hf
  exact mw_return dX7_forget_28 rfl hk
def f_X7_init (a0 : Nat) (v1 : Int32) (v2 : Int32) (h : Hp) : Option (Hp) :=
  (rc h (some a0) 6).bind fun g1 =>
  (nln 624 624).bind fun n3 =>
  (putQ (nw h 10 n3) (some a0) 6 7 (some h.1.length)).bind fun h5 =>
  (nln 104 104).bind fun n7 =>
  (putQ (nw h5 10 n7) (some a0) 6 8 (some h5.1.length)).bind fun h9 =>
  (nln 104 104).bind fun n11 =>
  (putQ (nw h9 10 n11) (some a0) 6 9 (some h9.1.length)).bind fun h13 =>
  (nln 104 104).bind fun n15 =>
  (putQ (nw h13 10 n15) (some a0) 6 10 (some h13.1.length)).bind fun h17 =>
  (putI h17 (some a0) 6 0 v1).bind fun h19 =>
  b1 ((if v2 = (0 : Int32) then
      some (0, h19)
    else
      some (1, h19) : Option (Int32 × Hp))) fun w22 h23 =>
  (putI h23 (some a0) 6 1 w22).bind fun h25 =>
  some h25
set_option maxHeartbeats 4000000 in
theorem t_X7_init (E : En) (d : Nat) {a0 : Nat} {v1 : Int32} {v2 : Int32} {h h' : Hp} {K : Option Vv → Hp → Prop} (hf : f_X7_init a0 v1 v2 h = some h') (hk : K none h') : MC E m_X7_init (d + 1) 4 936 [vq (some a0), vi v1, vi v2] h K := by
  unfold f_X7_init at hf
  show MW E m_X7_init (d + 1) 4 936 0 [some (vq (some a0)), some (vi v1), some (vi v2)] [] h K
  refine mw_aload_n (x := (some a0)) dX7_init_0 rfl ?_
  obtain ⟨g1, e2, hf⟩ := ob hf
  refine ml_objInit dX7_init_1 lk_RX7_3 oi_im oi_cd e2 (Nat.le_of_ble_eq_true rfl) ?_
  refine mw_aload_n (x := (some a0)) dX7_init_4 rfl ?_
  refine mw_sipush (v := 624) dX7_init_5 (by decide) ?_
  obtain ⟨n3, e4, hf⟩ := ob hf
  refine ml_newa (kd := 10) (most := 624) (mc := 3) (ms := 312) dX7_init_8 rfl (by decide) ac_int (by decide) e4 ?_
  obtain ⟨h5, e6, hf⟩ := ob hf
  refine ml_putQ dX7_init_10 fl_RX7_9 (Or.inr ⟨rfl, rfl, rfl⟩) rfl (Or.inr ⟨_, rfl⟩) e6 ?_
  refine mw_aload_n (x := (some a0)) dX7_init_13 rfl ?_
  refine mw_bipush (v := 104) dX7_init_14 (by decide) ?_
  obtain ⟨n7, e8, hf⟩ := ob hf
  refine ml_newa (kd := 10) (most := 104) (mc := 2) (ms := 208) dX7_init_16 rfl (by decide) ac_int (by decide) e8 ?_
  obtain ⟨h9, e10, hf⟩ := ob hf
  refine ml_putQ dX7_init_18 fl_RX7_15 (Or.inr ⟨rfl, rfl, rfl⟩) rfl (Or.inr ⟨_, rfl⟩) e10 ?_
  refine mw_aload_n (x := (some a0)) dX7_init_21 rfl ?_
  refine mw_bipush (v := 104) dX7_init_22 (by decide) ?_
  obtain ⟨n11, e12, hf⟩ := ob hf
  refine ml_newa (kd := 10) (most := 104) (mc := 1) (ms := 104) dX7_init_24 rfl (by decide) ac_int (by decide) e12 ?_
  obtain ⟨h13, e14, hf⟩ := ob hf
  refine ml_putQ dX7_init_26 fl_RX7_18 (Or.inr ⟨rfl, rfl, rfl⟩) rfl (Or.inr ⟨_, rfl⟩) e14 ?_
  refine mw_aload_n (x := (some a0)) dX7_init_29 rfl ?_
  refine mw_bipush (v := 104) dX7_init_30 (by decide) ?_
  obtain ⟨n15, e16, hf⟩ := ob hf
  refine ml_newa (kd := 10) (most := 104) (mc := 0) (ms := 0) dX7_init_32 rfl (by decide) ac_int (by decide) e16 ?_
  obtain ⟨h17, e18, hf⟩ := ob hf
  refine ml_putQ dX7_init_34 fl_RX7_21 (Or.inr ⟨rfl, rfl, rfl⟩) rfl (Or.inr ⟨_, rfl⟩) e18 ?_
  refine mw_aload_n (x := (some a0)) dX7_init_37 rfl ?_
  refine mw_iload_n (x := v1) dX7_init_38 rfl ?_
  obtain ⟨h19, e20, hf⟩ := ob hf
  refine ml_putI dX7_init_39 fl_RX7_24 (Or.inr ⟨rfl, rfl, rfl⟩) rfl rfl e20 ?_
  refine mw_aload_n (x := (some a0)) dX7_init_42 rfl ?_
  refine mw_iload_n (x := v2) dX7_init_43 rfl ?_
  obtain ⟨w22, h23, r24, hf⟩ := ob1 hf
  have J27 : MW E m_X7_init (d + 1) 0 0 52 [none, none, none] [vi w22, vq (some a0)] h23 K := by
    obtain ⟨h25, e26, hf⟩ := ob hf
    refine ml_putI dX7_init_52 fl_RX7_28 (Or.inr ⟨rfl, rfl, rfl⟩) rfl rfl e26 ?_
    obtain rfl := y0 hf
    exact mw_return dX7_init_55 rfl hk
  refine mw_if_eq (tgt := 51) dX7_init_44 rfl (fun c21 => ?_) (fun c21 => ?_)
  · rw [if_pos c21] at r24
    refine mw_iconst (v := 0) dX7_init_51 (by decide) ?_
    obtain ⟨rfl, rfl⟩ := y1 r24
    exact MW.sub (subL_n (subL_n (subL_n subL_nil))) (MW.more (Nat.le_refl _) (by decide) (by decide) J27)
  · rw [if_neg c21] at r24
    refine mw_iconst (v := 1) dX7_init_47 (by decide) ?_
    refine mw_goto (tgt := 52) dX7_init_48 rfl ?_
    obtain ⟨rfl, rfl⟩ := y1 r24
    exact MW.sub (subL_n (subL_n (subL_n subL_nil))) (MW.more (Nat.le_refl _) (by decide) (by decide) J27)
def f_X7_keep (a0 : Nat) (q1 : Option Nat) (h : Hp) : Option (Hp) :=
  (getQ h (some a0) 6 3).bind fun x1 =>
  Option.bind ((if x1 = none then
      (putQ h (some a0) 6 2 q1).bind fun h14 =>
      some h14
    else
      (getQ h (some a0) 6 3).bind fun x10 =>
      (putQ h x10 1 8 q1).bind fun h12 =>
      some h12 : Option (Hp))) fun h16 =>
  (putQ h16 (some a0) 6 3 q1).bind fun h18 =>
  (putZ h18 (some a0) 6 5 0).bind fun h20 =>
  some h20
set_option maxHeartbeats 4000000 in
theorem t_X7_keep (E : En) (d : Nat) {mc ms : Nat} {a0 : Nat} {q1 : Option Nat} {h h' : Hp} {K : Option Vv → Hp → Prop} (hf : f_X7_keep a0 q1 h = some h') (hk : K none h') : MC E m_X7_keep (d + 0) mc ms [vq (some a0), vq q1] h K := by
  unfold f_X7_keep at hf
  show MW E m_X7_keep (d + 0) mc ms 0 [some (vq (some a0)), some (vq q1)] [] h K
  refine mw_aload_n (x := (some a0)) dX7_keep_0 rfl ?_
  obtain ⟨x1, e2, hf⟩ := ob hf
  refine ml_getQ dX7_keep_1 fl_RX7_31 rfl e2 ?_
  obtain ⟨h16, r17, hf⟩ := ob hf
  have J22 : MW E m_X7_keep (d + 0) mc ms 23 [some (vq (some a0)), some (vq q1)] [] h16 K := by
    refine mw_aload_n (x := (some a0)) dX7_keep_23 rfl ?_
    refine mw_aload_n (x := q1) dX7_keep_24 rfl ?_
    obtain ⟨h18, e19, hf⟩ := ob hf
    refine ml_putQ dX7_keep_25 fl_RX7_31 (Or.inl rfl) rfl (Or.inl ⟨_, rfl⟩) e19 ?_
    refine mw_aload_n (x := (some a0)) dX7_keep_28 rfl ?_
    refine mw_iconst (v := 0) dX7_keep_29 (by decide) ?_
    obtain ⟨h20, e21, hf⟩ := ob hf
    refine ml_putZ dX7_keep_30 fl_RX7_43 (Or.inl rfl) rfl rfl e21 ?_
    obtain rfl := y0 hf
    exact mw_return dX7_keep_33 rfl hk
  refine mw_ifnonnull (tgt := 15) dX7_keep_4 rfl (fun c3 => ?_) (fun c3 => ?_)
  · rw [if_neg c3] at r17
    refine mw_aload_n (x := (some a0)) dX7_keep_15 rfl ?_
    obtain ⟨x10, e11, r17⟩ := ob r17
    refine ml_getQ dX7_keep_16 fl_RX7_31 rfl e11 ?_
    refine mw_aload_n (x := q1) dX7_keep_19 rfl ?_
    obtain ⟨h12, e13, r17⟩ := ob r17
    refine ml_putQ dX7_keep_20 fl_RX7_38 (Or.inl rfl) rfl (Or.inl ⟨_, rfl⟩) e13 ?_
    obtain rfl := y0 r17
    exact MW.sub (subL_s (subL_s subL_nil)) J22
  · rw [if_pos c3] at r17
    refine mw_aload_n (x := (some a0)) dX7_keep_7 rfl ?_
    refine mw_aload_n (x := q1) dX7_keep_8 rfl ?_
    obtain ⟨h14, e15, r17⟩ := ob r17
    refine ml_putQ dX7_keep_9 fl_RX7_35 (Or.inl rfl) rfl (Or.inl ⟨_, rfl⟩) e15 ?_
    refine mw_goto (tgt := 23) dX7_keep_12 rfl ?_
    obtain rfl := y0 r17
    exact MW.sub (subL_s (subL_s subL_nil)) J22
def f_X7_note (a0 : Nat) (q1 : Option Nat) (h : Hp) : Option (Hp) :=
  (getI h q1 1 3).bind fun x1 =>
  (getI h q1 1 2).bind fun x3 =>
  (getI h q1 1 1).bind fun x5 =>
  Option.bind ((if x5 = (0 : Int32) then
      if ((x1 * (104 : Int32)) + x3) < (0 : Int32) then
        some h
      else
        (getQ h (some a0) 6 7).bind fun x21 =>
        (aln h x21 10).bind fun x23 =>
        if x23 ≤ ((x1 * (104 : Int32)) + x3) then
          some h
        else
          (getQ h (some a0) 6 7).bind fun x26 =>
          (getI h q1 1 4).bind fun x28 =>
          (wrI h x26 ((x1 * (104 : Int32)) + x3) x28).bind fun h30 =>
          some h30
    else
      some h : Option (Hp))) fun h32 =>
  (getI h32 q1 1 1).bind fun x34 =>
  Option.bind ((if x34 = (1 : Int32) then
      (getI h32 q1 1 2).bind fun x53 =>
      if x53 < (0 : Int32) then
        some h32
      else
        (getI h32 q1 1 2).bind fun x56 =>
        (getQ h32 (some a0) 6 8).bind fun x58 =>
        (aln h32 x58 10).bind fun x60 =>
        if x60 ≤ x56 then
          some h32
        else
          (getQ h32 (some a0) 6 8).bind fun x63 =>
          (getI h32 q1 1 2).bind fun x65 =>
          (wrI h32 x63 x65 1).bind fun h67 =>
          some h67
    else
      some h32 : Option (Hp))) fun h69 =>
  some h69
set_option maxHeartbeats 4000000 in
theorem t_X7_note (E : En) (d : Nat) {mc ms : Nat} {a0 : Nat} {q1 : Option Nat} {h h' : Hp} {K : Option Vv → Hp → Prop} (hf : f_X7_note a0 q1 h = some h') (hk : K none h') : MC E m_X7_note (d + 0) mc ms [vq (some a0), vq q1] h K := by
  unfold f_X7_note at hf
  show MW E m_X7_note (d + 0) mc ms 0 [some (vq (some a0)), some (vq q1), none] [] h K
  refine mw_aload_n (x := q1) dX7_note_0 rfl ?_
  obtain ⟨x1, e2, hf⟩ := ob hf
  refine ml_getI dX7_note_1 fl_RX7_83 rfl e2 ?_
  refine mw_bipush (v := 104) dX7_note_4 (by decide) ?_
  refine mw_imul dX7_note_6 ?_
  refine mw_aload_n (x := q1) dX7_note_7 rfl ?_
  obtain ⟨x3, e4, hf⟩ := ob hf
  refine ml_getI dX7_note_8 fl_RX7_86 rfl e4 ?_
  refine mw_iadd dX7_note_11 ?_
  refine mw_istore_n dX7_note_12 (by decide) rfl ?_
  refine mw_aload_n (x := q1) dX7_note_13 rfl ?_
  obtain ⟨x5, e6, hf⟩ := ob hf
  refine ml_getI dX7_note_14 fl_RX7_89 rfl e6 ?_
  obtain ⟨h32, r33, hf⟩ := ob hf
  have J71 : MW E m_X7_note (d + 0) mc ms 43 [some (vq (some a0)), some (vq q1), none] [] h32 K := by
    refine mw_aload_n (x := q1) dX7_note_43 rfl ?_
    obtain ⟨x34, e35, hf⟩ := ob hf
    refine ml_getI dX7_note_44 fl_RX7_89 rfl e35 ?_
    refine mw_iconst (v := 1) dX7_note_47 (by decide) ?_
    obtain ⟨h69, r70, hf⟩ := ob hf
    have J72 : MW E m_X7_note (d + 0) mc ms 80 [none, none, none] [] h69 K := by
      obtain rfl := y0 hf
      exact mw_return dX7_note_80 rfl hk
    refine mw_icmp_ne (tgt := 80) dX7_note_48 rfl (fun c36 => ?_) (fun c36 => ?_)
    · rw [if_neg c36] at r70
      obtain rfl := y0 r70
      exact MW.sub (subL_n (subL_n (subL_n subL_nil))) J72
    · rw [if_pos c36] at r70
      refine mw_aload_n (x := q1) dX7_note_51 rfl ?_
      obtain ⟨x53, e54, r70⟩ := ob r70
      refine ml_getI dX7_note_52 fl_RX7_86 rfl e54 ?_
      refine mw_if_lt (tgt := 80) dX7_note_55 rfl (fun c55 => ?_) (fun c55 => ?_)
      · rw [if_pos c55] at r70
        obtain rfl := y0 r70
        exact MW.sub (subL_n (subL_n (subL_n subL_nil))) J72
      · rw [if_neg c55] at r70
        refine mw_aload_n (x := q1) dX7_note_58 rfl ?_
        obtain ⟨x56, e57, r70⟩ := ob r70
        refine ml_getI dX7_note_59 fl_RX7_86 rfl e57 ?_
        refine mw_aload_n (x := (some a0)) dX7_note_62 rfl ?_
        obtain ⟨x58, e59, r70⟩ := ob r70
        refine ml_getQ dX7_note_63 fl_RX7_15 rfl e59 ?_
        obtain ⟨x60, e61, r70⟩ := ob r70
        refine ml_alen dX7_note_66 e61 (by decide) (by decide) ?_
        refine mw_icmp_ge (tgt := 80) dX7_note_67 rfl (fun c62 => ?_) (fun c62 => ?_)
        · rw [if_pos c62] at r70
          obtain rfl := y0 r70
          exact MW.sub (subL_n (subL_n (subL_n subL_nil))) J72
        · rw [if_neg c62] at r70
          refine mw_aload_n (x := (some a0)) dX7_note_70 rfl ?_
          obtain ⟨x63, e64, r70⟩ := ob r70
          refine ml_getQ dX7_note_71 fl_RX7_15 rfl e64 ?_
          refine mw_aload_n (x := q1) dX7_note_74 rfl ?_
          obtain ⟨x65, e66, r70⟩ := ob r70
          refine ml_getI dX7_note_75 fl_RX7_86 rfl e66 ?_
          refine mw_iconst (v := 1) dX7_note_78 (by decide) ?_
          obtain ⟨h67, e68, r70⟩ := ob r70
          refine ml_iast dX7_note_79 e68 ?_
          obtain rfl := y0 r70
          exact MW.sub (subL_n (subL_n (subL_n subL_nil))) J72
  refine mw_if_ne (tgt := 43) dX7_note_17 rfl (fun c7 => ?_) (fun c7 => ?_)
  · rw [if_neg c7] at r33
    obtain rfl := y0 r33
    exact MW.sub (subL_s (subL_s (subL_n subL_nil))) J71
  · rw [if_pos c7] at r33
    refine mw_iload_n (x := ((x1 * (104 : Int32)) + x3)) dX7_note_20 rfl ?_
    refine mw_if_lt (tgt := 43) dX7_note_21 rfl (fun c20 => ?_) (fun c20 => ?_)
    · rw [if_pos c20] at r33
      obtain rfl := y0 r33
      exact MW.sub (subL_s (subL_s (subL_n subL_nil))) J71
    · rw [if_neg c20] at r33
      refine mw_iload_n (x := ((x1 * (104 : Int32)) + x3)) dX7_note_24 rfl ?_
      refine mw_aload_n (x := (some a0)) dX7_note_25 rfl ?_
      obtain ⟨x21, e22, r33⟩ := ob r33
      refine ml_getQ dX7_note_26 fl_RX7_9 rfl e22 ?_
      obtain ⟨x23, e24, r33⟩ := ob r33
      refine ml_alen dX7_note_29 e24 (by decide) (by decide) ?_
      refine mw_icmp_ge (tgt := 43) dX7_note_30 rfl (fun c25 => ?_) (fun c25 => ?_)
      · rw [if_pos c25] at r33
        obtain rfl := y0 r33
        exact MW.sub (subL_s (subL_s (subL_n subL_nil))) J71
      · rw [if_neg c25] at r33
        refine mw_aload_n (x := (some a0)) dX7_note_33 rfl ?_
        obtain ⟨x26, e27, r33⟩ := ob r33
        refine ml_getQ dX7_note_34 fl_RX7_9 rfl e27 ?_
        refine mw_iload_n (x := ((x1 * (104 : Int32)) + x3)) dX7_note_37 rfl ?_
        refine mw_aload_n (x := q1) dX7_note_38 rfl ?_
        obtain ⟨x28, e29, r33⟩ := ob r33
        refine ml_getI dX7_note_39 fl_RX7_92 rfl e29 ?_
        obtain ⟨h30, e31, r33⟩ := ob r33
        refine ml_iast dX7_note_42 e31 ?_
        obtain rfl := y0 r33
        exact MW.sub (subL_s (subL_s (subL_n subL_nil))) J71
def f_X7_layOut_L37 : Nat → Nat → Int32 → Option Nat → Option Nat → Hp → Option ((Hp))
  | 0, _, _, _, _, _ => none
  | n + 1, a0, v1, q2, q3, h =>
    if q3 = none then
      some h
    else
      (rc h q3 1).bind fun g17 =>
      b1 (f_X1_countsAt g17 v1 h) fun x19 h15 =>
      Option.bind ((if x19 = (0 : Int32) then
          some h15
        else
          (rc h15 (some a0) 6).bind fun g27 =>
          (f_X7_note g27 q3 h15).bind fun h25 =>
          some h25 : Option (Hp))) fun h29 =>
      (getQ h29 q3 1 8).bind fun x31 =>
      f_X7_layOut_L37 n a0 v1 q2 x31 h29
def f_X7_layOut_L64 : Nat → Nat → Int32 → Option Nat → Int32 → Hp → Option ((Hp))
  | 0, _, _, _, _, _ => none
  | n + 1, a0, v1, q2, v3, h =>
    if (104 : Int32) ≤ v3 then
      some h
    else
      (getQ h (some a0) 6 8).bind fun x35 =>
      (aln h x35 10).bind fun x37 =>
      if x37 ≤ v3 then
        some h
      else
        (getQ h (some a0) 6 8).bind fun x40 =>
        (rdI h x40 10 v3).bind fun x42 =>
        Option.bind ((if x42 = (0 : Int32) then
            some h
          else
            (rc h (some a0) 6).bind fun g51 =>
            (f_X7_forget g51 v3 h).bind fun h49 =>
            some h49 : Option (Hp))) fun h53 =>
        f_X7_layOut_L64 n a0 v1 q2 (v3 + 1) h53
def f_X7_layOut (a0 : Nat) (v1 : Int32) (q2 : Option Nat) (h : Hp) : Option (Hp) :=
  (getI h (some a0) 6 5).bind fun x1 =>
  if x1 = (0 : Int32) then
    (getQ h (some a0) 6 7).bind fun x4 =>
    (f_J7_fill_53178 x4 (0 : Int32) h).bind fun h6 =>
    (getQ h6 (some a0) 6 8).bind fun x8 =>
    (f_J7_fill_53178 x8 (0 : Int32) h6).bind fun h10 =>
    (getQ h10 (some a0) 6 2).bind fun x12 =>
    (f_X7_layOut_L37 fu a0 v1 q2 x12 h10).bind fun h33 =>
    (f_X7_layOut_L64 fu a0 v1 q2 0 h33).bind fun h55 =>
    (getQ h55 (some a0) 6 7).bind fun x56 =>
    (getQ h55 (some a0) 6 9).bind fun x58 =>
    (cpI h55 x56 0 x58 0 104).bind fun h60 =>
    (getQ h60 (some a0) 6 7).bind fun x62 =>
    (getQ h60 (some a0) 6 10).bind fun x64 =>
    (cpI h60 x62 0 x64 0 104).bind fun h66 =>
    (rc h66 q2 5).bind fun g70 =>
    b1 (f_X6_spread g70 (some a0) v1 h66) fun x72 h68 =>
    (putI h68 (some a0) 6 11 x72).bind fun h73 =>
    (putZ h73 (some a0) 6 5 1).bind fun h75 =>
    (putI h75 (some a0) 6 6 v1).bind fun h77 =>
    some h77
  else
    (getI h (some a0) 6 6).bind fun x83 =>
    if x83 = v1 then
      some h
    else
      (getQ h (some a0) 6 7).bind fun x86 =>
      (f_J7_fill_53178 x86 (0 : Int32) h).bind fun h88 =>
      (getQ h88 (some a0) 6 8).bind fun x90 =>
      (f_J7_fill_53178 x90 (0 : Int32) h88).bind fun h92 =>
      (getQ h92 (some a0) 6 2).bind fun x94 =>
      (f_X7_layOut_L37 fu a0 v1 q2 x94 h92).bind fun h96 =>
      (f_X7_layOut_L64 fu a0 v1 q2 0 h96).bind fun h97 =>
      (getQ h97 (some a0) 6 7).bind fun x98 =>
      (getQ h97 (some a0) 6 9).bind fun x100 =>
      (cpI h97 x98 0 x100 0 104).bind fun h102 =>
      (getQ h102 (some a0) 6 7).bind fun x104 =>
      (getQ h102 (some a0) 6 10).bind fun x106 =>
      (cpI h102 x104 0 x106 0 104).bind fun h108 =>
      (rc h108 q2 5).bind fun g112 =>
      b1 (f_X6_spread g112 (some a0) v1 h108) fun x114 h110 =>
      (putI h110 (some a0) 6 11 x114).bind fun h115 =>
      (putZ h115 (some a0) 6 5 1).bind fun h117 =>
      (putI h117 (some a0) 6 6 v1).bind fun h119 =>
      some h119
set_option maxHeartbeats 4000000 in
theorem tl_X7_layOut_37 (E : En) (d : Nat) {mc ms : Nat} {K : Option Vv → Hp → Prop} : ∀ (n : Nat) (a0 : Nat) (v1 : Int32) (q2 : Option Nat) (q3 : Option Nat) (h : Hp) (hz : Hp), f_X7_layOut_L37 n a0 v1 q2 q3 h = some hz → MW E m_X7_layOut (d + 4) mc ms 62 [some (vq (some a0)), some (vi v1), some (vq q2), none] [] hz K → MW E m_X7_layOut (d + 4) mc ms 37 [some (vq (some a0)), some (vi v1), some (vq q2), some (vq q3)] [] h K := by
  intro n
  induction n with
  | zero => intro a0 v1 q2 q3 h hz hf; exact nomatch (show none = some _ from hf)
  | succ n ih =>
    intro a0 v1 q2 q3 h hz hf hX62
    rw [f_X7_layOut_L37] at hf
    refine mw_aload_n (x := q3) dX7_layOut_37 rfl ?_
    refine mw_ifnull (tgt := 62) dX7_layOut_38 rfl (fun c14 => ?_) (fun c14 => ?_)
    · rw [if_pos c14] at hf
      obtain rfl := y0 hf
      exact MW.sub (subL_s (subL_s (subL_s (subL_n subL_nil)))) hX62
    · rw [if_neg c14] at hf
      refine mw_aload_n (x := q3) dX7_layOut_41 rfl ?_
      refine mw_iload_n (x := v1) dX7_layOut_42 rfl ?_
      obtain ⟨g17, e18, hf⟩ := ob hf
      obtain ⟨x19, h15, e16, hf⟩ := ob1 hf
      refine ml_callV (ci := 1) (mc' := 0) (ms' := 0) [vi v1] dX7_layOut_43 mk_X1_countsAt lk_RX7_56 im_X1_countsAt se_X1_countsAt (by decide) e18 rfl (Nat.le_of_ble_eq_true rfl) (Nat.le_of_ble_eq_true rfl) (t_X1_countsAt E _ e16 isR_rfl) ?_
      obtain ⟨h29, r30, hf⟩ := ob hf
      have J125 : MW E m_X7_layOut (d + 4) mc ms 54 [some (vq (some a0)), some (vi v1), some (vq q2), some (vq q3)] [] h29 K := by
        refine mw_aload_n (x := q3) dX7_layOut_54 rfl ?_
        obtain ⟨x31, e32, hf⟩ := ob hf
        refine ml_getQ dX7_layOut_55 fl_RX7_38 rfl e32 ?_
        refine mw_astore_n dX7_layOut_58 (by decide) rfl ?_
        refine mw_goto (tgt := 37) dX7_layOut_59 rfl ?_
        exact MW.sub (subL_s (subL_s (subL_s (subL_s subL_nil)))) (ih _ _ _ _ _ _ hf hX62)
      refine mw_if_eq (tgt := 54) dX7_layOut_46 rfl (fun c20 => ?_) (fun c20 => ?_)
      · rw [if_pos c20] at r30
        obtain rfl := y0 r30
        exact MW.sub (subL_s (subL_s (subL_s (subL_s subL_nil)))) J125
      · rw [if_neg c20] at r30
        refine mw_aload_n (x := (some a0)) dX7_layOut_49 rfl ?_
        refine mw_aload_n (x := q3) dX7_layOut_50 rfl ?_
        obtain ⟨g27, e28, r30⟩ := ob r30
        obtain ⟨h25, e26, r30⟩ := ob r30
        refine ml_callV (ci := 6) (mc' := 0) (ms' := 0) [vq q3] dX7_layOut_51 mk_X7_note lk_RX7_60 im_X7_note se_X7_note (by decide) e28 rfl (Nat.le_of_ble_eq_true rfl) (Nat.le_of_ble_eq_true rfl) (t_X7_note E _ e26 isR_rfl) ?_
        obtain rfl := y0 r30
        exact MW.sub (subL_s (subL_s (subL_s (subL_s subL_nil)))) J125
set_option maxHeartbeats 4000000 in
theorem tl_X7_layOut_64 (E : En) (d : Nat) {mc ms : Nat} {K : Option Vv → Hp → Prop} : ∀ (n : Nat) (a0 : Nat) (v1 : Int32) (q2 : Option Nat) (v3 : Int32) (h : Hp) (hz : Hp), f_X7_layOut_L64 n a0 v1 q2 v3 h = some hz → MW E m_X7_layOut (d + 4) mc ms 99 [some (vq (some a0)), some (vi v1), some (vq q2), none] [] hz K → MW E m_X7_layOut (d + 4) mc ms 64 [some (vq (some a0)), some (vi v1), some (vq q2), some (vi v3)] [] h K := by
  intro n
  induction n with
  | zero => intro a0 v1 q2 v3 h hz hf; exact nomatch (show none = some _ from hf)
  | succ n ih =>
    intro a0 v1 q2 v3 h hz hf hX99
    rw [f_X7_layOut_L64] at hf
    refine mw_iload_n (x := v3) dX7_layOut_64 rfl ?_
    refine mw_bipush (v := 104) dX7_layOut_65 (by decide) ?_
    refine mw_icmp_ge (tgt := 99) dX7_layOut_67 rfl (fun c34 => ?_) (fun c34 => ?_)
    · rw [if_pos c34] at hf
      obtain rfl := y0 hf
      exact MW.sub (subL_s (subL_s (subL_s (subL_n subL_nil)))) hX99
    · rw [if_neg c34] at hf
      refine mw_iload_n (x := v3) dX7_layOut_70 rfl ?_
      refine mw_aload_n (x := (some a0)) dX7_layOut_71 rfl ?_
      obtain ⟨x35, e36, hf⟩ := ob hf
      refine ml_getQ dX7_layOut_72 fl_RX7_15 rfl e36 ?_
      obtain ⟨x37, e38, hf⟩ := ob hf
      refine ml_alen dX7_layOut_75 e38 (by decide) (by decide) ?_
      refine mw_icmp_ge (tgt := 99) dX7_layOut_76 rfl (fun c39 => ?_) (fun c39 => ?_)
      · rw [if_pos c39] at hf
        obtain rfl := y0 hf
        exact MW.sub (subL_s (subL_s (subL_s (subL_n subL_nil)))) hX99
      · rw [if_neg c39] at hf
        refine mw_aload_n (x := (some a0)) dX7_layOut_79 rfl ?_
        obtain ⟨x40, e41, hf⟩ := ob hf
        refine ml_getQ dX7_layOut_80 fl_RX7_15 rfl e41 ?_
        refine mw_iload_n (x := v3) dX7_layOut_83 rfl ?_
        obtain ⟨x42, e43, hf⟩ := ob hf
        refine ml_iald dX7_layOut_84 e43 ?_
        obtain ⟨h53, r54, hf⟩ := ob hf
        have J126 : MW E m_X7_layOut (d + 4) mc ms 93 [some (vq (some a0)), some (vi v1), some (vq q2), some (vi v3)] [] h53 K := by
          refine mw_iinc (x := v3) (v := v3 + 1) dX7_layOut_93 rfl rfl (by decide) rfl ?_
          refine mw_goto (tgt := 64) dX7_layOut_96 rfl ?_
          exact MW.sub (subL_s (subL_s (subL_s (subL_s subL_nil)))) (ih _ _ _ _ _ _ hf hX99)
        refine mw_if_eq (tgt := 93) dX7_layOut_85 rfl (fun c44 => ?_) (fun c44 => ?_)
        · rw [if_pos c44] at r54
          obtain rfl := y0 r54
          exact MW.sub (subL_s (subL_s (subL_s (subL_s subL_nil)))) J126
        · rw [if_neg c44] at r54
          refine mw_aload_n (x := (some a0)) dX7_layOut_88 rfl ?_
          refine mw_iload_n (x := v3) dX7_layOut_89 rfl ?_
          obtain ⟨g51, e52, r54⟩ := ob r54
          obtain ⟨h49, e50, r54⟩ := ob r54
          refine ml_callV (ci := 6) (mc' := 0) (ms' := 0) [vi v3] dX7_layOut_90 mk_X7_forget lk_RX7_64 im_X7_forget se_X7_forget (by decide) e52 rfl (Nat.le_of_ble_eq_true rfl) (Nat.le_of_ble_eq_true rfl) (t_X7_forget E _ e50 isR_rfl) ?_
          obtain rfl := y0 r54
          exact MW.sub (subL_s (subL_s (subL_s (subL_s subL_nil)))) J126
set_option maxHeartbeats 4000000 in
theorem t_X7_layOut (E : En) (d : Nat) {mc ms : Nat} {a0 : Nat} {v1 : Int32} {q2 : Option Nat} {h h' : Hp} {K : Option Vv → Hp → Prop} (hf : f_X7_layOut a0 v1 q2 h = some h') (hk : K none h') : MC E m_X7_layOut (d + 4) mc ms [vq (some a0), vi v1, vq q2] h K := by
  unfold f_X7_layOut at hf
  show MW E m_X7_layOut (d + 4) mc ms 0 [some (vq (some a0)), some (vi v1), some (vq q2), none] [] h K
  refine mw_aload_n (x := (some a0)) dX7_layOut_0 rfl ?_
  obtain ⟨x1, e2, hf⟩ := ob hf
  refine ml_getI dX7_layOut_1 fl_RX7_43 rfl e2 ?_
  refine mw_if_eq (tgt := 16) dX7_layOut_4 rfl (fun c3 => ?_) (fun c3 => ?_)
  · rw [if_pos c3] at hf
    refine mw_aload_n (x := (some a0)) dX7_layOut_16 rfl ?_
    obtain ⟨x4, e5, hf⟩ := ob hf
    refine ml_getQ dX7_layOut_17 fl_RX7_9 rfl e5 ?_
    refine mw_iconst (v := 0) dX7_layOut_20 (by decide) ?_
    obtain ⟨h6, e7, hf⟩ := ob hf
    refine ml_callS (mc' := 0) (ms' := 0) [vq x4, vi (0 : Int32)] dX7_layOut_21 mk_J7_fill_53178 lk_RX7_50 st_J7_fill_53178 rfl (Nat.le_of_ble_eq_true rfl) (Nat.le_of_ble_eq_true rfl) (t_J7_fill_53178 E _ e7 isR_rfl) ?_
    refine mw_aload_n (x := (some a0)) dX7_layOut_24 rfl ?_
    obtain ⟨x8, e9, hf⟩ := ob hf
    refine ml_getQ dX7_layOut_25 fl_RX7_15 rfl e9 ?_
    refine mw_iconst (v := 0) dX7_layOut_28 (by decide) ?_
    obtain ⟨h10, e11, hf⟩ := ob hf
    refine ml_callS (mc' := 0) (ms' := 0) [vq x8, vi (0 : Int32)] dX7_layOut_29 mk_J7_fill_53178 lk_RX7_50 st_J7_fill_53178 rfl (Nat.le_of_ble_eq_true rfl) (Nat.le_of_ble_eq_true rfl) (t_J7_fill_53178 E _ e11 isR_rfl) ?_
    refine mw_aload_n (x := (some a0)) dX7_layOut_32 rfl ?_
    obtain ⟨x12, e13, hf⟩ := ob hf
    refine ml_getQ dX7_layOut_33 fl_RX7_35 rfl e13 ?_
    refine mw_astore_n dX7_layOut_36 (by decide) rfl ?_
    obtain ⟨h33, e81, hf⟩ := ob hf
    refine MW.sub (subL_s (subL_s (subL_s (subL_s subL_nil)))) (tl_X7_layOut_37 E d _ _ _ _ _ _ _ e81 ?_)
    refine mw_iconst (v := 0) dX7_layOut_62 (by decide) ?_
    refine mw_istore_n dX7_layOut_63 (by decide) rfl ?_
    obtain ⟨h55, e79, hf⟩ := ob hf
    refine MW.sub (subL_s (subL_s (subL_s (subL_s subL_nil)))) (tl_X7_layOut_64 E d _ _ _ _ _ _ _ e79 ?_)
    refine mw_aload_n (x := (some a0)) dX7_layOut_99 rfl ?_
    obtain ⟨x56, e57, hf⟩ := ob hf
    refine ml_getQ dX7_layOut_100 fl_RX7_9 rfl e57 ?_
    refine mw_iconst (v := 0) dX7_layOut_103 (by decide) ?_
    refine mw_aload_n (x := (some a0)) dX7_layOut_104 rfl ?_
    obtain ⟨x58, e59, hf⟩ := ob hf
    refine ml_getQ dX7_layOut_105 fl_RX7_18 rfl e59 ?_
    refine mw_iconst (v := 0) dX7_layOut_108 (by decide) ?_
    refine mw_bipush (v := 104) dX7_layOut_109 (by decide) ?_
    obtain ⟨h60, e61, hf⟩ := ob hf
    refine ml_copy dX7_layOut_111 lk_RX7_68 cp_nt cp_st cp_in (Nat.le_of_ble_eq_true rfl) e61 ?_
    refine mw_aload_n (x := (some a0)) dX7_layOut_114 rfl ?_
    obtain ⟨x62, e63, hf⟩ := ob hf
    refine ml_getQ dX7_layOut_115 fl_RX7_9 rfl e63 ?_
    refine mw_iconst (v := 0) dX7_layOut_118 (by decide) ?_
    refine mw_aload_n (x := (some a0)) dX7_layOut_119 rfl ?_
    obtain ⟨x64, e65, hf⟩ := ob hf
    refine ml_getQ dX7_layOut_120 fl_RX7_21 rfl e65 ?_
    refine mw_iconst (v := 0) dX7_layOut_123 (by decide) ?_
    refine mw_bipush (v := 104) dX7_layOut_124 (by decide) ?_
    obtain ⟨h66, e67, hf⟩ := ob hf
    refine ml_copy dX7_layOut_126 lk_RX7_68 cp_nt cp_st cp_in (Nat.le_of_ble_eq_true rfl) e67 ?_
    refine mw_aload_n (x := (some a0)) dX7_layOut_129 rfl ?_
    refine mw_aload_n (x := q2) dX7_layOut_130 rfl ?_
    refine mw_aload_n (x := (some a0)) dX7_layOut_131 rfl ?_
    refine mw_iload_n (x := v1) dX7_layOut_132 rfl ?_
    obtain ⟨g70, e71, hf⟩ := ob hf
    obtain ⟨x72, h68, e69, hf⟩ := ob1 hf
    refine ml_callV (ci := 5) (mc' := 0) (ms' := 0) [vq (some a0), vi v1] dX7_layOut_133 mk_X6_spread lk_RX7_74 im_X6_spread se_X6_spread (by decide) e71 rfl (Nat.le_of_ble_eq_true rfl) (Nat.le_of_ble_eq_true rfl) (t_X6_spread E _ e69 isR_rfl) ?_
    obtain ⟨h73, e74, hf⟩ := ob hf
    refine ml_putI dX7_layOut_136 fl_RX7_80 (Or.inl rfl) rfl rfl e74 ?_
    refine mw_aload_n (x := (some a0)) dX7_layOut_139 rfl ?_
    refine mw_iconst (v := 1) dX7_layOut_140 (by decide) ?_
    obtain ⟨h75, e76, hf⟩ := ob hf
    refine ml_putZ dX7_layOut_141 fl_RX7_43 (Or.inl rfl) rfl rfl e76 ?_
    refine mw_aload_n (x := (some a0)) dX7_layOut_144 rfl ?_
    refine mw_iload_n (x := v1) dX7_layOut_145 rfl ?_
    obtain ⟨h77, e78, hf⟩ := ob hf
    refine ml_putI dX7_layOut_146 fl_RX7_47 (Or.inl rfl) rfl rfl e78 ?_
    obtain rfl := y0 hf
    exact mw_return dX7_layOut_149 rfl hk
  · rw [if_neg c3] at hf
    refine mw_aload_n (x := (some a0)) dX7_layOut_7 rfl ?_
    obtain ⟨x83, e84, hf⟩ := ob hf
    refine ml_getI dX7_layOut_8 fl_RX7_47 rfl e84 ?_
    refine mw_iload_n (x := v1) dX7_layOut_11 rfl ?_
    refine mw_icmp_ne (tgt := 16) dX7_layOut_12 rfl (fun c85 => ?_) (fun c85 => ?_)
    · rw [if_neg c85] at hf
      refine mw_aload_n (x := (some a0)) dX7_layOut_16 rfl ?_
      obtain ⟨x86, e87, hf⟩ := ob hf
      refine ml_getQ dX7_layOut_17 fl_RX7_9 rfl e87 ?_
      refine mw_iconst (v := 0) dX7_layOut_20 (by decide) ?_
      obtain ⟨h88, e89, hf⟩ := ob hf
      refine ml_callS (mc' := 0) (ms' := 0) [vq x86, vi (0 : Int32)] dX7_layOut_21 mk_J7_fill_53178 lk_RX7_50 st_J7_fill_53178 rfl (Nat.le_of_ble_eq_true rfl) (Nat.le_of_ble_eq_true rfl) (t_J7_fill_53178 E _ e89 isR_rfl) ?_
      refine mw_aload_n (x := (some a0)) dX7_layOut_24 rfl ?_
      obtain ⟨x90, e91, hf⟩ := ob hf
      refine ml_getQ dX7_layOut_25 fl_RX7_15 rfl e91 ?_
      refine mw_iconst (v := 0) dX7_layOut_28 (by decide) ?_
      obtain ⟨h92, e93, hf⟩ := ob hf
      refine ml_callS (mc' := 0) (ms' := 0) [vq x90, vi (0 : Int32)] dX7_layOut_29 mk_J7_fill_53178 lk_RX7_50 st_J7_fill_53178 rfl (Nat.le_of_ble_eq_true rfl) (Nat.le_of_ble_eq_true rfl) (t_J7_fill_53178 E _ e93 isR_rfl) ?_
      refine mw_aload_n (x := (some a0)) dX7_layOut_32 rfl ?_
      obtain ⟨x94, e95, hf⟩ := ob hf
      refine ml_getQ dX7_layOut_33 fl_RX7_35 rfl e95 ?_
      refine mw_astore_n dX7_layOut_36 (by decide) rfl ?_
      obtain ⟨h96, e123, hf⟩ := ob hf
      refine MW.sub (subL_s (subL_s (subL_s (subL_s subL_nil)))) (tl_X7_layOut_37 E d _ _ _ _ _ _ _ e123 ?_)
      refine mw_iconst (v := 0) dX7_layOut_62 (by decide) ?_
      refine mw_istore_n dX7_layOut_63 (by decide) rfl ?_
      obtain ⟨h97, e121, hf⟩ := ob hf
      refine MW.sub (subL_s (subL_s (subL_s (subL_s subL_nil)))) (tl_X7_layOut_64 E d _ _ _ _ _ _ _ e121 ?_)
      refine mw_aload_n (x := (some a0)) dX7_layOut_99 rfl ?_
      obtain ⟨x98, e99, hf⟩ := ob hf
      refine ml_getQ dX7_layOut_100 fl_RX7_9 rfl e99 ?_
      refine mw_iconst (v := 0) dX7_layOut_103 (by decide) ?_
      refine mw_aload_n (x := (some a0)) dX7_layOut_104 rfl ?_
      obtain ⟨x100, e101, hf⟩ := ob hf
      refine ml_getQ dX7_layOut_105 fl_RX7_18 rfl e101 ?_
      refine mw_iconst (v := 0) dX7_layOut_108 (by decide) ?_
      refine mw_bipush (v := 104) dX7_layOut_109 (by decide) ?_
      obtain ⟨h102, e103, hf⟩ := ob hf
      refine ml_copy dX7_layOut_111 lk_RX7_68 cp_nt cp_st cp_in (Nat.le_of_ble_eq_true rfl) e103 ?_
      refine mw_aload_n (x := (some a0)) dX7_layOut_114 rfl ?_
      obtain ⟨x104, e105, hf⟩ := ob hf
      refine ml_getQ dX7_layOut_115 fl_RX7_9 rfl e105 ?_
      refine mw_iconst (v := 0) dX7_layOut_118 (by decide) ?_
      refine mw_aload_n (x := (some a0)) dX7_layOut_119 rfl ?_
      obtain ⟨x106, e107, hf⟩ := ob hf
      refine ml_getQ dX7_layOut_120 fl_RX7_21 rfl e107 ?_
      refine mw_iconst (v := 0) dX7_layOut_123 (by decide) ?_
      refine mw_bipush (v := 104) dX7_layOut_124 (by decide) ?_
      obtain ⟨h108, e109, hf⟩ := ob hf
      refine ml_copy dX7_layOut_126 lk_RX7_68 cp_nt cp_st cp_in (Nat.le_of_ble_eq_true rfl) e109 ?_
      refine mw_aload_n (x := (some a0)) dX7_layOut_129 rfl ?_
      refine mw_aload_n (x := q2) dX7_layOut_130 rfl ?_
      refine mw_aload_n (x := (some a0)) dX7_layOut_131 rfl ?_
      refine mw_iload_n (x := v1) dX7_layOut_132 rfl ?_
      obtain ⟨g112, e113, hf⟩ := ob hf
      obtain ⟨x114, h110, e111, hf⟩ := ob1 hf
      refine ml_callV (ci := 5) (mc' := 0) (ms' := 0) [vq (some a0), vi v1] dX7_layOut_133 mk_X6_spread lk_RX7_74 im_X6_spread se_X6_spread (by decide) e113 rfl (Nat.le_of_ble_eq_true rfl) (Nat.le_of_ble_eq_true rfl) (t_X6_spread E _ e111 isR_rfl) ?_
      obtain ⟨h115, e116, hf⟩ := ob hf
      refine ml_putI dX7_layOut_136 fl_RX7_80 (Or.inl rfl) rfl rfl e116 ?_
      refine mw_aload_n (x := (some a0)) dX7_layOut_139 rfl ?_
      refine mw_iconst (v := 1) dX7_layOut_140 (by decide) ?_
      obtain ⟨h117, e118, hf⟩ := ob hf
      refine ml_putZ dX7_layOut_141 fl_RX7_43 (Or.inl rfl) rfl rfl e118 ?_
      refine mw_aload_n (x := (some a0)) dX7_layOut_144 rfl ?_
      refine mw_iload_n (x := v1) dX7_layOut_145 rfl ?_
      obtain ⟨h119, e120, hf⟩ := ob hf
      refine ml_putI dX7_layOut_146 fl_RX7_47 (Or.inl rfl) rfl rfl e120 ?_
      obtain rfl := y0 hf
      exact mw_return dX7_layOut_149 rfl hk
    · rw [if_pos c85] at hf
      obtain rfl := y0 hf
      exact mw_return dX7_layOut_15 rfl hk
def f_X8_isWeek (v0 : Int32) (h : Hp) : Option (Int32 × Hp) :=
  b1 (f_X8_within v0 (0 : Int32) (103 : Int32) h) fun x3 h1 =>
  (zok x3).bind fun z4 =>
  some (x3, h1)
set_option maxHeartbeats 4000000 in
theorem t_X8_isWeek (E : En) (d : Nat) {mc ms : Nat} {v0 : Int32} {h h' : Hp} {r : Int32} {K : Option Vv → Hp → Prop} (hf : f_X8_isWeek v0 h = some (r, h')) (hk : K (some (vi r)) h') : MC E m_X8_isWeek (d + 1) mc ms [vi v0] h K := by
  unfold f_X8_isWeek at hf
  show MW E m_X8_isWeek (d + 1) mc ms 0 [some (vi v0)] [] h K
  refine mw_iload_n (x := v0) dX8_isWeek_0 rfl ?_
  refine mw_iconst (v := 0) dX8_isWeek_1 (by decide) ?_
  refine mw_bipush (v := 103) dX8_isWeek_2 (by decide) ?_
  obtain ⟨x3, h1, e2, hf⟩ := ob1 hf
  refine ml_callS (mc' := 0) (ms' := 0) [vi v0, vi (0 : Int32), vi (103 : Int32)] dX8_isWeek_4 mk_X8_within lk_RX8_81 st_X8_within rfl (Nat.le_of_ble_eq_true rfl) (Nat.le_of_ble_eq_true rfl) (t_X8_within E _ e2 isR_rfl) ?_
  obtain ⟨z4, e5, hf⟩ := ob hf
  obtain ⟨rfl, rfl⟩ := y1 hf
  exact mw_ireturn dX8_isWeek_7 rfl (zok_of e5) hk
def f_X4_leaf_L45 : Nat → Nat → Int32 → Int32 → Hp → Option ((Int32 × Hp))
  | 0, _, _, _, _ => none
  | n + 1, a0, v3, v4, h =>
    if v4 < (0 : Int32) then
      some (v3, h)
    else
      if (520 : Int32) ≤ v4 then
        some (v3, h)
      else
        (getQ h (some a0) 4 4).bind fun x4 =>
        (aln h x4 10).bind fun x6 =>
        if x6 ≤ v4 then
          some (v3, h)
        else
          (getQ h (some a0) 4 4).bind fun x9 =>
          (rdI h x9 10 v4).bind fun x11 =>
          f_X4_leaf_L45 n a0 (v3 + x11) (v4 + 104) h
def f_X4_leaf (a0 : Nat) (v1 : Int32) (v2 : Int32) (h : Hp) : Option (Int32 × Hp) :=
  if (10000 : Int32) ≤ v1 then
    if v1.toInt < 10006 ∨ 10009 < v1.toInt then
      b1 ((if (((v1 - (10000 : Int32)) * (104 : Int32)) + v2) < (0 : Int32) then
          some (0, h)
        else
          (getQ h (some a0) 4 4).bind fun x31 =>
          (aln h x31 10).bind fun x33 =>
          if x33 ≤ (((v1 - (10000 : Int32)) * (104 : Int32)) + v2) then
            some (0, h)
          else
            (getQ h (some a0) 4 4).bind fun x36 =>
            (rdI h x36 10 (((v1 - (10000 : Int32)) * (104 : Int32)) + v2)).bind fun x38 =>
            some (x38, h) : Option (Int32 × Hp))) fun w40 h41 =>
      some (w40, h41)
    else if v1 = 10006 then
      b1 (f_X4_leaf_L45 fu a0 0 v2 h) fun w13 h14 =>
      some (w13, h14)
    else if v1 = 10007 then
      some (v2, h)
    else if v1 = 10008 then
      (getI h (some a0) 4 2).bind fun x17 =>
      some (x17, h)
    else if v1 = 10009 then
      (getI h (some a0) 4 3).bind fun x19 =>
      some (x19, h)
    else none
  else
    some (v1, h)
set_option maxHeartbeats 4000000 in
theorem tl_X4_leaf_45 (E : En) (d : Nat) {mc ms : Nat} {K : Option Vv → Hp → Prop} : ∀ (n : Nat) (a0 : Nat) (v3 : Int32) (v4 : Int32) (h : Hp) (u3 : Int32) (hz : Hp), f_X4_leaf_L45 n a0 v3 v4 h = some (u3, hz) → MW E m_X4_leaf (d + 0) mc ms 84 [none, none, none, some (vi u3), none] [] hz K → MW E m_X4_leaf (d + 0) mc ms 45 [some (vq (some a0)), none, none, some (vi v3), some (vi v4)] [] h K := by
  intro n
  induction n with
  | zero => intro a0 v3 v4 h u3 hz hf; exact nomatch (show none = some _ from hf)
  | succ n ih =>
    intro a0 v3 v4 h u3 hz hf hX84
    rw [f_X4_leaf_L45] at hf
    refine mw_iload (x := v4) dX4_leaf_45 rfl ?_
    refine mw_if_lt (tgt := 84) dX4_leaf_47 rfl (fun c2 => ?_) (fun c2 => ?_)
    · rw [if_pos c2] at hf
      obtain ⟨rfl, rfl⟩ := y1 hf
      exact MW.sub (subL_n (subL_n (subL_n (subL_s (subL_n subL_nil))))) hX84
    · rw [if_neg c2] at hf
      refine mw_iload (x := v4) dX4_leaf_50 rfl ?_
      refine mw_sipush (v := 520) dX4_leaf_52 (by decide) ?_
      refine mw_icmp_ge (tgt := 84) dX4_leaf_55 rfl (fun c3 => ?_) (fun c3 => ?_)
      · rw [if_pos c3] at hf
        obtain ⟨rfl, rfl⟩ := y1 hf
        exact MW.sub (subL_n (subL_n (subL_n (subL_s (subL_n subL_nil))))) hX84
      · rw [if_neg c3] at hf
        refine mw_iload (x := v4) dX4_leaf_58 rfl ?_
        refine mw_aload_n (x := (some a0)) dX4_leaf_60 rfl ?_
        obtain ⟨x4, e5, hf⟩ := ob hf
        refine ml_getQ dX4_leaf_61 fl_RX4_18 rfl e5 ?_
        obtain ⟨x6, e7, hf⟩ := ob hf
        refine ml_alen dX4_leaf_64 e7 (by decide) (by decide) ?_
        refine mw_icmp_ge (tgt := 84) dX4_leaf_65 rfl (fun c8 => ?_) (fun c8 => ?_)
        · rw [if_pos c8] at hf
          obtain ⟨rfl, rfl⟩ := y1 hf
          exact MW.sub (subL_n (subL_n (subL_n (subL_s (subL_n subL_nil))))) hX84
        · rw [if_neg c8] at hf
          refine mw_iload_n (x := v3) dX4_leaf_68 rfl ?_
          refine mw_aload_n (x := (some a0)) dX4_leaf_69 rfl ?_
          obtain ⟨x9, e10, hf⟩ := ob hf
          refine ml_getQ dX4_leaf_70 fl_RX4_18 rfl e10 ?_
          refine mw_iload (x := v4) dX4_leaf_73 rfl ?_
          obtain ⟨x11, e12, hf⟩ := ob hf
          refine ml_iald dX4_leaf_75 e12 ?_
          refine mw_iadd dX4_leaf_76 ?_
          refine mw_istore_n dX4_leaf_77 (by decide) rfl ?_
          refine mw_iinc (x := v4) (v := v4 + 104) dX4_leaf_78 rfl rfl (by decide) rfl ?_
          refine mw_goto (tgt := 45) dX4_leaf_81 rfl ?_
          exact MW.sub (subL_s (subL_n (subL_n (subL_s (subL_s subL_nil))))) (ih _ _ _ _ _ _ hf hX84)
set_option maxHeartbeats 4000000 in
theorem t_X4_leaf (E : En) (d : Nat) {mc ms : Nat} {a0 : Nat} {v1 : Int32} {v2 : Int32} {h h' : Hp} {r : Int32} {K : Option Vv → Hp → Prop} (hf : f_X4_leaf a0 v1 v2 h = some (r, h')) (hk : K (some (vi r)) h') : MC E m_X4_leaf (d + 0) mc ms [vq (some a0), vi v1, vi v2] h K := by
  unfold f_X4_leaf at hf
  show MW E m_X4_leaf (d + 0) mc ms 0 [some (vq (some a0)), some (vi v1), some (vi v2), none, none] [] h K
  refine mw_iload_n (x := v1) dX4_leaf_0 rfl ?_
  refine mw_sipush (v := 10000) dX4_leaf_1 (by decide) ?_
  refine mw_icmp_ge (tgt := 9) dX4_leaf_4 rfl (fun c1 => ?_) (fun c1 => ?_)
  · rw [if_pos c1] at hf
    refine mw_iload_n (x := v1) dX4_leaf_9 rfl ?_
    by_cases c43 : v1.toInt < 10006 ∨ 10009 < v1.toInt
    · rw [if_pos c43] at hf
      refine mw_tableOut (tgt := 98) dX4_leaf_10 c43 rfl ?_
      refine mw_iload_n (x := v1) dX4_leaf_98 rfl ?_
      refine mw_sipush (v := 10000) dX4_leaf_99 (by decide) ?_
      refine mw_isub dX4_leaf_102 ?_
      refine mw_bipush (v := 104) dX4_leaf_103 (by decide) ?_
      refine mw_imul dX4_leaf_105 ?_
      refine mw_iload_n (x := v2) dX4_leaf_106 rfl ?_
      refine mw_iadd dX4_leaf_107 ?_
      refine mw_istore dX4_leaf_108 (by decide) rfl ?_
      refine mw_iload (x := (((v1 - (10000 : Int32)) * (104 : Int32)) + v2)) dX4_leaf_110 rfl ?_
      obtain ⟨w40, h41, r42, hf⟩ := ob1 hf
      have J44 : MW E m_X4_leaf (d + 0) mc ms 136 [none, none, none, none, none] [vi w40] h41 K := by
        obtain ⟨rfl, rfl⟩ := y1 hf
        exact mw_ireturn dX4_leaf_136 rfl rfl hk
      refine mw_if_lt (tgt := 135) dX4_leaf_112 rfl (fun c21 => ?_) (fun c21 => ?_)
      · rw [if_pos c21] at r42
        refine mw_iconst (v := 0) dX4_leaf_135 (by decide) ?_
        obtain ⟨rfl, rfl⟩ := y1 r42
        exact MW.sub (subL_n (subL_n (subL_n (subL_n (subL_n subL_nil))))) J44
      · rw [if_neg c21] at r42
        refine mw_iload (x := (((v1 - (10000 : Int32)) * (104 : Int32)) + v2)) dX4_leaf_115 rfl ?_
        refine mw_aload_n (x := (some a0)) dX4_leaf_117 rfl ?_
        obtain ⟨x31, e32, r42⟩ := ob r42
        refine ml_getQ dX4_leaf_118 fl_RX4_18 rfl e32 ?_
        obtain ⟨x33, e34, r42⟩ := ob r42
        refine ml_alen dX4_leaf_121 e34 (by decide) (by decide) ?_
        refine mw_icmp_ge (tgt := 135) dX4_leaf_122 rfl (fun c35 => ?_) (fun c35 => ?_)
        · rw [if_pos c35] at r42
          refine mw_iconst (v := 0) dX4_leaf_135 (by decide) ?_
          obtain ⟨rfl, rfl⟩ := y1 r42
          exact MW.sub (subL_n (subL_n (subL_n (subL_n (subL_n subL_nil))))) J44
        · rw [if_neg c35] at r42
          refine mw_aload_n (x := (some a0)) dX4_leaf_125 rfl ?_
          obtain ⟨x36, e37, r42⟩ := ob r42
          refine ml_getQ dX4_leaf_126 fl_RX4_18 rfl e37 ?_
          refine mw_iload (x := (((v1 - (10000 : Int32)) * (104 : Int32)) + v2)) dX4_leaf_129 rfl ?_
          obtain ⟨x38, e39, r42⟩ := ob r42
          refine ml_iald dX4_leaf_131 e39 ?_
          refine mw_goto (tgt := 136) dX4_leaf_132 rfl ?_
          obtain ⟨rfl, rfl⟩ := y1 r42
          exact MW.sub (subL_n (subL_n (subL_n (subL_n (subL_n subL_nil))))) J44
    rw [if_neg c43] at hf
    by_cases c43 : v1 = 10006
    · rw [if_pos c43] at hf
      refine ml_tableIn (v := 10006) (tgt := 40) dX4_leaf_10 c43 (by decide) (by decide) rfl rfl ?_
      refine mw_iconst (v := 0) dX4_leaf_40 (by decide) ?_
      refine mw_istore_n dX4_leaf_41 (by decide) rfl ?_
      refine mw_iload_n (x := v2) dX4_leaf_42 rfl ?_
      refine mw_istore dX4_leaf_43 (by decide) rfl ?_
      obtain ⟨w13, h14, e15, hf⟩ := ob1 hf
      refine MW.sub (subL_s (subL_n (subL_n (subL_s (subL_s subL_nil))))) (tl_X4_leaf_45 E d _ _ _ _ _ _ _ e15 ?_)
      refine mw_iload_n (x := w13) dX4_leaf_84 rfl ?_
      obtain ⟨rfl, rfl⟩ := y1 hf
      exact mw_ireturn dX4_leaf_85 rfl rfl hk
    rw [if_neg c43] at hf
    by_cases c43 : v1 = 10007
    · rw [if_pos c43] at hf
      refine ml_tableIn (v := 10007) (tgt := 86) dX4_leaf_10 c43 (by decide) (by decide) rfl rfl ?_
      refine mw_iload_n (x := v2) dX4_leaf_86 rfl ?_
      obtain ⟨rfl, rfl⟩ := y1 hf
      exact mw_ireturn dX4_leaf_87 rfl rfl hk
    rw [if_neg c43] at hf
    by_cases c43 : v1 = 10008
    · rw [if_pos c43] at hf
      refine ml_tableIn (v := 10008) (tgt := 88) dX4_leaf_10 c43 (by decide) (by decide) rfl rfl ?_
      refine mw_aload_n (x := (some a0)) dX4_leaf_88 rfl ?_
      obtain ⟨x17, e18, hf⟩ := ob hf
      refine ml_getI dX4_leaf_89 fl_RX4_51 rfl e18 ?_
      obtain ⟨rfl, rfl⟩ := y1 hf
      exact mw_ireturn dX4_leaf_92 rfl rfl hk
    rw [if_neg c43] at hf
    by_cases c43 : v1 = 10009
    · rw [if_pos c43] at hf
      refine ml_tableIn (v := 10009) (tgt := 93) dX4_leaf_10 c43 (by decide) (by decide) rfl rfl ?_
      refine mw_aload_n (x := (some a0)) dX4_leaf_93 rfl ?_
      obtain ⟨x19, e20, hf⟩ := ob hf
      refine ml_getI dX4_leaf_94 fl_RX4_55 rfl e20 ?_
      obtain ⟨rfl, rfl⟩ := y1 hf
      exact mw_ireturn dX4_leaf_97 rfl rfl hk
    rw [if_neg c43] at hf
    cases hf
  · rw [if_neg c1] at hf
    refine mw_iload_n (x := v1) dX4_leaf_7 rfl ?_
    obtain ⟨rfl, rfl⟩ := y1 hf
    exact mw_ireturn dX4_leaf_8 rfl rfl hk
def f_X4_habit_L18 : Nat → Nat → Int32 → Int32 → Int32 → Int32 → Hp → Option ((Int32 × Hp))
  | 0, _, _, _, _, _, _ => none
  | n + 1, a0, v1, v2, v3, v4, h =>
    if v2 ≤ v4 then
      some (v3, h)
    else
      b1 ((if ((v1 * (104 : Int32)) + v4) < (0 : Int32) then
          some (v3, h)
        else
          (getQ h (some a0) 4 4).bind fun x17 =>
          (aln h x17 10).bind fun x19 =>
          if x19 ≤ ((v1 * (104 : Int32)) + v4) then
            some (v3, h)
          else
            (getQ h (some a0) 4 4).bind fun x22 =>
            (rdI h x22 10 ((v1 * (104 : Int32)) + v4)).bind fun x24 =>
            if x24 ≤ (0 : Int32) then
              some (v3, h)
            else
              some ((v3 + 1), h) : Option (Int32 × Hp))) fun w27 h28 =>
      f_X4_habit_L18 n a0 v1 v2 w27 (v4 + 1) h28
def f_X4_habit (a0 : Nat) (v1 : Int32) (v2 : Int32) (h : Hp) : Option (Int32 × Hp) :=
  b1 ((if (12 : Int32) ≤ v2 then
      some ((v2 - (12 : Int32)), h)
    else
      some (0, h) : Option (Int32 × Hp))) fun w2 h3 =>
  b1 (f_X4_habit_L18 fu a0 v1 v2 0 w2 h3) fun w30 h31 =>
  some (w30, h31)
set_option maxHeartbeats 4000000 in
theorem tl_X4_habit_18 (E : En) (d : Nat) {mc ms : Nat} {K : Option Vv → Hp → Prop} : ∀ (n : Nat) (a0 : Nat) (v1 : Int32) (v2 : Int32) (v3 : Int32) (v4 : Int32) (h : Hp) (u3 : Int32) (hz : Hp), f_X4_habit_L18 n a0 v1 v2 v3 v4 h = some (u3, hz) → MW E m_X4_habit (d + 0) mc ms 67 [none, none, none, some (vi u3), none, none] [] hz K → MW E m_X4_habit (d + 0) mc ms 18 [some (vq (some a0)), some (vi v1), some (vi v2), some (vi v3), some (vi v4), none] [] h K := by
  intro n
  induction n with
  | zero => intro a0 v1 v2 v3 v4 h u3 hz hf; exact nomatch (show none = some _ from hf)
  | succ n ih =>
    intro a0 v1 v2 v3 v4 h u3 hz hf hX67
    rw [f_X4_habit_L18] at hf
    refine mw_iload (x := v4) dX4_habit_18 rfl ?_
    refine mw_iload_n (x := v2) dX4_habit_20 rfl ?_
    refine mw_icmp_ge (tgt := 67) dX4_habit_21 rfl (fun c5 => ?_) (fun c5 => ?_)
    · rw [if_pos c5] at hf
      obtain ⟨rfl, rfl⟩ := y1 hf
      exact MW.sub (subL_n (subL_n (subL_n (subL_s (subL_n (subL_n subL_nil)))))) hX67
    · rw [if_neg c5] at hf
      refine mw_iload_n (x := v1) dX4_habit_24 rfl ?_
      refine mw_bipush (v := 104) dX4_habit_25 (by decide) ?_
      refine mw_imul dX4_habit_27 ?_
      refine mw_iload (x := v4) dX4_habit_28 rfl ?_
      refine mw_iadd dX4_habit_30 ?_
      refine mw_istore dX4_habit_31 (by decide) rfl ?_
      refine mw_iload (x := ((v1 * (104 : Int32)) + v4)) dX4_habit_33 rfl ?_
      obtain ⟨w27, h28, r29, hf⟩ := ob1 hf
      have J34 : MW E m_X4_habit (d + 0) mc ms 61 [some (vq (some a0)), some (vi v1), some (vi v2), some (vi w27), some (vi v4), none] [] h28 K := by
        refine mw_iinc (x := v4) (v := v4 + 1) dX4_habit_61 rfl rfl (by decide) rfl ?_
        refine mw_goto (tgt := 18) dX4_habit_64 rfl ?_
        exact MW.sub (subL_s (subL_s (subL_s (subL_s (subL_s (subL_n subL_nil)))))) (ih _ _ _ _ _ _ _ _ hf hX67)
      refine mw_if_lt (tgt := 61) dX4_habit_35 rfl (fun c6 => ?_) (fun c6 => ?_)
      · rw [if_pos c6] at r29
        obtain ⟨rfl, rfl⟩ := y1 r29
        exact MW.sub (subL_s (subL_s (subL_s (subL_s (subL_s (subL_n subL_nil)))))) J34
      · rw [if_neg c6] at r29
        refine mw_iload (x := ((v1 * (104 : Int32)) + v4)) dX4_habit_38 rfl ?_
        refine mw_aload_n (x := (some a0)) dX4_habit_40 rfl ?_
        obtain ⟨x17, e18, r29⟩ := ob r29
        refine ml_getQ dX4_habit_41 fl_RX4_18 rfl e18 ?_
        obtain ⟨x19, e20, r29⟩ := ob r29
        refine ml_alen dX4_habit_44 e20 (by decide) (by decide) ?_
        refine mw_icmp_ge (tgt := 61) dX4_habit_45 rfl (fun c21 => ?_) (fun c21 => ?_)
        · rw [if_pos c21] at r29
          obtain ⟨rfl, rfl⟩ := y1 r29
          exact MW.sub (subL_s (subL_s (subL_s (subL_s (subL_s (subL_n subL_nil)))))) J34
        · rw [if_neg c21] at r29
          refine mw_aload_n (x := (some a0)) dX4_habit_48 rfl ?_
          obtain ⟨x22, e23, r29⟩ := ob r29
          refine ml_getQ dX4_habit_49 fl_RX4_18 rfl e23 ?_
          refine mw_iload (x := ((v1 * (104 : Int32)) + v4)) dX4_habit_52 rfl ?_
          obtain ⟨x24, e25, r29⟩ := ob r29
          refine ml_iald dX4_habit_54 e25 ?_
          refine mw_if_le (tgt := 61) dX4_habit_55 rfl (fun c26 => ?_) (fun c26 => ?_)
          · rw [if_pos c26] at r29
            obtain ⟨rfl, rfl⟩ := y1 r29
            exact MW.sub (subL_s (subL_s (subL_s (subL_s (subL_s (subL_n subL_nil)))))) J34
          · rw [if_neg c26] at r29
            refine mw_iinc (x := v3) (v := v3 + 1) dX4_habit_58 rfl rfl (by decide) rfl ?_
            obtain ⟨rfl, rfl⟩ := y1 r29
            exact MW.sub (subL_s (subL_s (subL_s (subL_s (subL_s (subL_n subL_nil)))))) J34
set_option maxHeartbeats 4000000 in
theorem t_X4_habit (E : En) (d : Nat) {mc ms : Nat} {a0 : Nat} {v1 : Int32} {v2 : Int32} {h h' : Hp} {r : Int32} {K : Option Vv → Hp → Prop} (hf : f_X4_habit a0 v1 v2 h = some (r, h')) (hk : K (some (vi r)) h') : MC E m_X4_habit (d + 0) mc ms [vq (some a0), vi v1, vi v2] h K := by
  unfold f_X4_habit at hf
  show MW E m_X4_habit (d + 0) mc ms 0 [some (vq (some a0)), some (vi v1), some (vi v2), none, none, none] [] h K
  refine mw_iconst (v := 0) dX4_habit_0 (by decide) ?_
  refine mw_istore_n dX4_habit_1 (by decide) rfl ?_
  refine mw_iload_n (x := v2) dX4_habit_2 rfl ?_
  refine mw_bipush (v := 12) dX4_habit_3 (by decide) ?_
  obtain ⟨w2, h3, r4, hf⟩ := ob1 hf
  have J35 : MW E m_X4_habit (d + 0) mc ms 16 [some (vq (some a0)), some (vi v1), some (vi v2), some (vi 0), none, none] [vi w2] h3 K := by
    refine mw_istore dX4_habit_16 (by decide) rfl ?_
    obtain ⟨w30, h31, e32, hf⟩ := ob1 hf
    refine MW.sub (subL_s (subL_s (subL_s (subL_s (subL_s (subL_n subL_nil)))))) (tl_X4_habit_18 E d _ _ _ _ _ _ _ _ _ e32 ?_)
    refine mw_iload_n (x := w30) dX4_habit_67 rfl ?_
    obtain ⟨rfl, rfl⟩ := y1 hf
    exact mw_ireturn dX4_habit_68 rfl rfl hk
  refine mw_icmp_ge (tgt := 12) dX4_habit_5 rfl (fun c1 => ?_) (fun c1 => ?_)
  · rw [if_pos c1] at r4
    refine mw_iload_n (x := v2) dX4_habit_12 rfl ?_
    refine mw_bipush (v := 12) dX4_habit_13 (by decide) ?_
    refine mw_isub dX4_habit_15 ?_
    obtain ⟨rfl, rfl⟩ := y1 r4
    exact MW.sub (subL_s (subL_s (subL_s (subL_s (subL_n (subL_n subL_nil)))))) J35
  · rw [if_neg c1] at r4
    refine mw_iconst (v := 0) dX4_habit_8 (by decide) ?_
    refine mw_goto (tgt := 16) dX4_habit_9 rfl ?_
    obtain ⟨rfl, rfl⟩ := y1 r4
    exact MW.sub (subL_s (subL_s (subL_s (subL_s (subL_n (subL_n subL_nil)))))) J35
def f_X4_join (v0 : Int32) (v1 : Int32) (v2 : Int32) (h : Hp) : Option (Int32 × Hp) :=
  if v0 = 10 then
    b1 ((if v1 = (0 : Int32) then
        if v2 = (0 : Int32) then
          some (0, h)
        else
          some (1, h)
      else
        some (1, h) : Option (Int32 × Hp))) fun w4 h5 =>
    some (w4, h5)
  else if v0 = 11 then
    b1 ((if v1 = (0 : Int32) then
        some (0, h)
      else
        if v2 = (0 : Int32) then
          some (0, h)
        else
          some (1, h) : Option (Int32 × Hp))) fun w10 h11 =>
    some (w10, h11)
  else if v0 = 42 then
    some ((v1 * v2), h)
  else if v0 = 43 then
    some ((v1 + v2), h)
  else if v0 = 45 then
    some ((v1 - v2), h)
  else if v0 = 60 then
    b1 ((if v2 ≤ v1 then
        some (0, h)
      else
        some (1, h) : Option (Int32 × Hp))) fun w14 h15 =>
    some (w14, h15)
  else if v0 = 61 then
    b1 ((if v1 = v2 then
        some (1, h)
      else
        some (0, h) : Option (Int32 × Hp))) fun w18 h19 =>
    some (w18, h19)
  else if v0 = 62 then
    b1 ((if v1 ≤ v2 then
        some (0, h)
      else
        some (1, h) : Option (Int32 × Hp))) fun w22 h23 =>
    some (w22, h23)
  else
    b1 ((if v2 = (0 : Int32) then
        some (0, h)
      else
        (dvI v1 v2).bind fun x28 =>
        some (x28, h) : Option (Int32 × Hp))) fun w30 h31 =>
    some (w30, h31)
set_option maxHeartbeats 4000000 in
theorem t_X4_join (E : En) (d : Nat) {mc ms : Nat} {v0 : Int32} {v1 : Int32} {v2 : Int32} {h h' : Hp} {r : Int32} {K : Option Vv → Hp → Prop} (hf : f_X4_join v0 v1 v2 h = some (r, h')) (hk : K (some (vi r)) h') : MC E m_X4_join (d + 0) mc ms [vi v0, vi v1, vi v2] h K := by
  unfold f_X4_join at hf
  show MW E m_X4_join (d + 0) mc ms 0 [some (vi v0), some (vi v1), some (vi v2)] [] h K
  refine mw_iload_n (x := v0) dX4_join_0 rfl ?_
  by_cases c33_0 : v0 = 10
  · rw [if_pos c33_0] at hf
    refine ml_lookIn (v := 10) (tgt := 76) dX4_join_1 (by decide) c33_0 rfl rfl ?_
    refine mw_iload_n (x := v1) dX4_join_76 rfl ?_
    obtain ⟨w4, h5, r6, hf⟩ := ob1 hf
    have J34 : MW E m_X4_join (d + 0) mc ms 89 [none, none, none] [vi w4] h5 K := by
      obtain ⟨rfl, rfl⟩ := y1 hf
      exact mw_ireturn dX4_join_89 rfl rfl hk
    refine mw_if_ne (tgt := 84) dX4_join_77 rfl (fun c1 => ?_) (fun c1 => ?_)
    · rw [if_neg c1] at r6
      refine mw_iconst (v := 1) dX4_join_84 (by decide) ?_
      refine mw_goto (tgt := 89) dX4_join_85 rfl ?_
      obtain ⟨rfl, rfl⟩ := y1 r6
      exact MW.sub (subL_n (subL_n (subL_n subL_nil))) J34
    · rw [if_pos c1] at r6
      refine mw_iload_n (x := v2) dX4_join_80 rfl ?_
      refine mw_if_eq (tgt := 88) dX4_join_81 rfl (fun c3 => ?_) (fun c3 => ?_)
      · rw [if_pos c3] at r6
        refine mw_iconst (v := 0) dX4_join_88 (by decide) ?_
        obtain ⟨rfl, rfl⟩ := y1 r6
        exact MW.sub (subL_n (subL_n (subL_n subL_nil))) J34
      · rw [if_neg c3] at r6
        refine mw_iconst (v := 1) dX4_join_84 (by decide) ?_
        refine mw_goto (tgt := 89) dX4_join_85 rfl ?_
        obtain ⟨rfl, rfl⟩ := y1 r6
        exact MW.sub (subL_n (subL_n (subL_n subL_nil))) J34
  rw [if_neg c33_0] at hf
  by_cases c33_1 : v0 = 11
  · rw [if_pos c33_1] at hf
    refine ml_lookIn (v := 11) (tgt := 90) dX4_join_1 (by decide) c33_1 rfl rfl ?_
    refine mw_iload_n (x := v1) dX4_join_90 rfl ?_
    obtain ⟨w10, h11, r12, hf⟩ := ob1 hf
    have J35 : MW E m_X4_join (d + 0) mc ms 103 [none, none, none] [vi w10] h11 K := by
      obtain ⟨rfl, rfl⟩ := y1 hf
      exact mw_ireturn dX4_join_103 rfl rfl hk
    refine mw_if_eq (tgt := 102) dX4_join_91 rfl (fun c7 => ?_) (fun c7 => ?_)
    · rw [if_pos c7] at r12
      refine mw_iconst (v := 0) dX4_join_102 (by decide) ?_
      obtain ⟨rfl, rfl⟩ := y1 r12
      exact MW.sub (subL_n (subL_n (subL_n subL_nil))) J35
    · rw [if_neg c7] at r12
      refine mw_iload_n (x := v2) dX4_join_94 rfl ?_
      refine mw_if_eq (tgt := 102) dX4_join_95 rfl (fun c9 => ?_) (fun c9 => ?_)
      · rw [if_pos c9] at r12
        refine mw_iconst (v := 0) dX4_join_102 (by decide) ?_
        obtain ⟨rfl, rfl⟩ := y1 r12
        exact MW.sub (subL_n (subL_n (subL_n subL_nil))) J35
      · rw [if_neg c9] at r12
        refine mw_iconst (v := 1) dX4_join_98 (by decide) ?_
        refine mw_goto (tgt := 103) dX4_join_99 rfl ?_
        obtain ⟨rfl, rfl⟩ := y1 r12
        exact MW.sub (subL_n (subL_n (subL_n subL_nil))) J35
  rw [if_neg c33_1] at hf
  by_cases c33_2 : v0 = 42
  · rw [if_pos c33_2] at hf
    refine ml_lookIn (v := 42) (tgt := 145) dX4_join_1 (by decide) c33_2 rfl rfl ?_
    refine mw_iload_n (x := v1) dX4_join_145 rfl ?_
    refine mw_iload_n (x := v2) dX4_join_146 rfl ?_
    refine mw_imul dX4_join_147 ?_
    obtain ⟨rfl, rfl⟩ := y1 hf
    exact mw_ireturn dX4_join_148 rfl rfl hk
  rw [if_neg c33_2] at hf
  by_cases c33_3 : v0 = 43
  · rw [if_pos c33_3] at hf
    refine ml_lookIn (v := 43) (tgt := 137) dX4_join_1 (by decide) c33_3 rfl rfl ?_
    refine mw_iload_n (x := v1) dX4_join_137 rfl ?_
    refine mw_iload_n (x := v2) dX4_join_138 rfl ?_
    refine mw_iadd dX4_join_139 ?_
    obtain ⟨rfl, rfl⟩ := y1 hf
    exact mw_ireturn dX4_join_140 rfl rfl hk
  rw [if_neg c33_3] at hf
  by_cases c33_4 : v0 = 45
  · rw [if_pos c33_4] at hf
    refine ml_lookIn (v := 45) (tgt := 141) dX4_join_1 (by decide) c33_4 rfl rfl ?_
    refine mw_iload_n (x := v1) dX4_join_141 rfl ?_
    refine mw_iload_n (x := v2) dX4_join_142 rfl ?_
    refine mw_isub dX4_join_143 ?_
    obtain ⟨rfl, rfl⟩ := y1 hf
    exact mw_ireturn dX4_join_144 rfl rfl hk
  rw [if_neg c33_4] at hf
  by_cases c33_5 : v0 = 60
  · rw [if_pos c33_5] at hf
    refine ml_lookIn (v := 60) (tgt := 104) dX4_join_1 (by decide) c33_5 rfl rfl ?_
    refine mw_iload_n (x := v1) dX4_join_104 rfl ?_
    refine mw_iload_n (x := v2) dX4_join_105 rfl ?_
    obtain ⟨w14, h15, r16, hf⟩ := ob1 hf
    have J36 : MW E m_X4_join (d + 0) mc ms 114 [none, none, none] [vi w14] h15 K := by
      obtain ⟨rfl, rfl⟩ := y1 hf
      exact mw_ireturn dX4_join_114 rfl rfl hk
    refine mw_icmp_ge (tgt := 113) dX4_join_106 rfl (fun c13 => ?_) (fun c13 => ?_)
    · rw [if_pos c13] at r16
      refine mw_iconst (v := 0) dX4_join_113 (by decide) ?_
      obtain ⟨rfl, rfl⟩ := y1 r16
      exact MW.sub (subL_n (subL_n (subL_n subL_nil))) J36
    · rw [if_neg c13] at r16
      refine mw_iconst (v := 1) dX4_join_109 (by decide) ?_
      refine mw_goto (tgt := 114) dX4_join_110 rfl ?_
      obtain ⟨rfl, rfl⟩ := y1 r16
      exact MW.sub (subL_n (subL_n (subL_n subL_nil))) J36
  rw [if_neg c33_5] at hf
  by_cases c33_6 : v0 = 61
  · rw [if_pos c33_6] at hf
    refine ml_lookIn (v := 61) (tgt := 126) dX4_join_1 (by decide) c33_6 rfl rfl ?_
    refine mw_iload_n (x := v1) dX4_join_126 rfl ?_
    refine mw_iload_n (x := v2) dX4_join_127 rfl ?_
    obtain ⟨w18, h19, r20, hf⟩ := ob1 hf
    have J37 : MW E m_X4_join (d + 0) mc ms 136 [none, none, none] [vi w18] h19 K := by
      obtain ⟨rfl, rfl⟩ := y1 hf
      exact mw_ireturn dX4_join_136 rfl rfl hk
    refine mw_icmp_ne (tgt := 135) dX4_join_128 rfl (fun c17 => ?_) (fun c17 => ?_)
    · rw [if_neg c17] at r20
      refine mw_iconst (v := 0) dX4_join_135 (by decide) ?_
      obtain ⟨rfl, rfl⟩ := y1 r20
      exact MW.sub (subL_n (subL_n (subL_n subL_nil))) J37
    · rw [if_pos c17] at r20
      refine mw_iconst (v := 1) dX4_join_131 (by decide) ?_
      refine mw_goto (tgt := 136) dX4_join_132 rfl ?_
      obtain ⟨rfl, rfl⟩ := y1 r20
      exact MW.sub (subL_n (subL_n (subL_n subL_nil))) J37
  rw [if_neg c33_6] at hf
  by_cases c33_7 : v0 = 62
  · rw [if_pos c33_7] at hf
    refine ml_lookIn (v := 62) (tgt := 115) dX4_join_1 (by decide) c33_7 rfl rfl ?_
    refine mw_iload_n (x := v1) dX4_join_115 rfl ?_
    refine mw_iload_n (x := v2) dX4_join_116 rfl ?_
    obtain ⟨w22, h23, r24, hf⟩ := ob1 hf
    have J38 : MW E m_X4_join (d + 0) mc ms 125 [none, none, none] [vi w22] h23 K := by
      obtain ⟨rfl, rfl⟩ := y1 hf
      exact mw_ireturn dX4_join_125 rfl rfl hk
    refine mw_icmp_le (tgt := 124) dX4_join_117 rfl (fun c21 => ?_) (fun c21 => ?_)
    · rw [if_pos c21] at r24
      refine mw_iconst (v := 0) dX4_join_124 (by decide) ?_
      obtain ⟨rfl, rfl⟩ := y1 r24
      exact MW.sub (subL_n (subL_n (subL_n subL_nil))) J38
    · rw [if_neg c21] at r24
      refine mw_iconst (v := 1) dX4_join_120 (by decide) ?_
      refine mw_goto (tgt := 125) dX4_join_121 rfl ?_
      obtain ⟨rfl, rfl⟩ := y1 r24
      exact MW.sub (subL_n (subL_n (subL_n subL_nil))) J38
  rw [if_neg c33_7] at hf
  refine ml_lookOut (tgt := 149) dX4_join_1 (by decide) (⟨c33_0, c33_1, c33_2, c33_3, c33_4, c33_5, c33_6, c33_7, trivial⟩) rfl ?_
  refine mw_iload_n (x := v2) dX4_join_149 rfl ?_
  obtain ⟨w30, h31, r32, hf⟩ := ob1 hf
  have J39 : MW E m_X4_join (d + 0) mc ms 160 [none, none, none] [vi w30] h31 K := by
    obtain ⟨rfl, rfl⟩ := y1 hf
    exact mw_ireturn dX4_join_160 rfl rfl hk
  refine mw_if_ne (tgt := 157) dX4_join_150 rfl (fun c25 => ?_) (fun c25 => ?_)
  · rw [if_neg c25] at r32
    refine mw_iload_n (x := v1) dX4_join_157 rfl ?_
    refine mw_iload_n (x := v2) dX4_join_158 rfl ?_
    obtain ⟨x28, e29, r32⟩ := ob r32
    refine ml_idiv dX4_join_159 e29 ?_
    obtain ⟨rfl, rfl⟩ := y1 r32
    exact MW.sub (subL_n (subL_n (subL_n subL_nil))) J39
  · rw [if_pos c25] at r32
    refine mw_iconst (v := 0) dX4_join_153 (by decide) ?_
    refine mw_goto (tgt := 160) dX4_join_154 rfl ?_
    obtain ⟨rfl, rfl⟩ := y1 r32
    exact MW.sub (subL_n (subL_n (subL_n subL_nil))) J39
def f_X4_valueOf_L5 : Nat → Nat → Option Nat → Int32 → Int32 → Int32 → Hp → Option ((Int32 × Hp))
  | 0, _, _, _, _, _, _ => none
  | n + 1, a0, q1, v2, v3, v4, h =>
    (aln h q1 10).bind fun x1 =>
    if x1 ≤ v4 then
      some (v3, h)
    else
      (rdI h q1 10 v4).bind fun x4 =>
      b1 ((if (20000 : Int32) ≤ x4 then
          if x4 = (20012 : Int32) then
            if v3 ≤ (0 : Int32) then
              some (v3, h)
            else
              (getQ h (some a0) 4 8).bind fun x88 =>
              (getQ h (some a0) 4 8).bind fun x90 =>
              (rdI h x90 10 (v3 - (1 : Int32))).bind fun x92 =>
              b1 ((if x92 = (0 : Int32) then
                  some (1, h)
                else
                  some (0, h) : Option (Int32 × Hp))) fun w95 h96 =>
              (wrI h96 x88 (v3 - (1 : Int32)) w95).bind fun h98 =>
              some (v3, h98)
          else
            if v3 ≤ (1 : Int32) then
              some (v3, h)
            else
              (getQ h (some a0) 4 8).bind fun x72 =>
              (getQ h (some a0) 4 8).bind fun x74 =>
              (rdI h x74 10 ((v3 + (-1)) - (1 : Int32))).bind fun x76 =>
              (getQ h (some a0) 4 8).bind fun x78 =>
              (rdI h x78 10 (v3 + (-1))).bind fun x80 =>
              b1 (f_X4_join (x4 - (20000 : Int32)) x76 x80 h) fun x84 h82 =>
              (wrI h82 x72 ((v3 + (-1)) - (1 : Int32)) x84).bind fun h85 =>
              some ((v3 + (-1)), h85)
        else
          (getQ h (some a0) 4 8).bind fun x100 =>
          (aln h x100 10).bind fun x102 =>
          if x102 ≤ v3 then
            some (v3, h)
          else
            (getQ h (some a0) 4 8).bind fun x105 =>
            b1 ((if (10010 : Int32) ≤ x4 then
                (rc h (some a0) 4).bind fun g120 =>
                b1 (f_X4_habit g120 (x4 - (10010 : Int32)) v2 h) fun x122 h118 =>
                some (x122, h118)
              else
                (rc h (some a0) 4).bind fun g125 =>
                b1 (f_X4_leaf g125 x4 v2 h) fun x127 h123 =>
                some (x127, h123) : Option (Int32 × Hp))) fun w128 h129 =>
            (wrI h129 x105 v3 w128).bind fun h131 =>
            some ((v3 + 1), h131) : Option (Int32 × Hp))) fun w133 h134 =>
      f_X4_valueOf_L5 n a0 q1 v2 w133 (v4 + 1) h134
def f_X4_valueOf (a0 : Nat) (q1 : Option Nat) (v2 : Int32) (h : Hp) : Option (Int32 × Hp) :=
  b1 (f_X4_valueOf_L5 fu a0 q1 v2 0 0 h) fun w136 h137 =>
  b1 ((if w136 ≤ (0 : Int32) then
      some (0, h137)
    else
      (getQ h137 (some a0) 4 8).bind fun x143 =>
      (rdI h137 x143 10 0).bind fun x145 =>
      some (x145, h137) : Option (Int32 × Hp))) fun w147 h148 =>
  some (w147, h148)
set_option maxHeartbeats 4000000 in
theorem tl_X4_valueOf_5 (E : En) (d : Nat) {mc ms : Nat} {K : Option Vv → Hp → Prop} : ∀ (n : Nat) (a0 : Nat) (q1 : Option Nat) (v2 : Int32) (v3 : Int32) (v4 : Int32) (h : Hp) (u3 : Int32) (hz : Hp), f_X4_valueOf_L5 n a0 q1 v2 v3 v4 h = some (u3, hz) → MW E m_X4_valueOf (d + 1) mc ms 160 [some (vq (some a0)), none, none, some (vi u3), none, none] [] hz K → MW E m_X4_valueOf (d + 1) mc ms 5 [some (vq (some a0)), some (vq q1), some (vi v2), some (vi v3), some (vi v4), none] [] h K := by
  intro n
  induction n with
  | zero => intro a0 q1 v2 v3 v4 h u3 hz hf; exact nomatch (show none = some _ from hf)
  | succ n ih =>
    intro a0 q1 v2 v3 v4 h u3 hz hf hX160
    rw [f_X4_valueOf_L5] at hf
    refine mw_iload (x := v4) dX4_valueOf_5 rfl ?_
    refine mw_aload_n (x := q1) dX4_valueOf_7 rfl ?_
    obtain ⟨x1, e2, hf⟩ := ob hf
    refine ml_alen dX4_valueOf_8 e2 (by decide) (by decide) ?_
    refine mw_icmp_ge (tgt := 160) dX4_valueOf_9 rfl (fun c3 => ?_) (fun c3 => ?_)
    · rw [if_pos c3] at hf
      obtain ⟨rfl, rfl⟩ := y1 hf
      exact MW.sub (subL_s (subL_n (subL_n (subL_s (subL_n (subL_n subL_nil)))))) hX160
    · rw [if_neg c3] at hf
      refine mw_aload_n (x := q1) dX4_valueOf_12 rfl ?_
      refine mw_iload (x := v4) dX4_valueOf_13 rfl ?_
      obtain ⟨x4, e5, hf⟩ := ob hf
      refine ml_iald dX4_valueOf_15 e5 ?_
      refine mw_istore dX4_valueOf_16 (by decide) rfl ?_
      refine mw_iload (x := x4) dX4_valueOf_18 rfl ?_
      refine mw_sipush (v := 20000) dX4_valueOf_20 (by decide) ?_
      obtain ⟨w133, h134, r135, hf⟩ := ob1 hf
      have J152 : MW E m_X4_valueOf (d + 1) mc ms 154 [some (vq (some a0)), some (vq q1), some (vi v2), some (vi w133), some (vi v4), none] [] h134 K := by
        refine mw_iinc (x := v4) (v := v4 + 1) dX4_valueOf_154 rfl rfl (by decide) rfl ?_
        refine mw_goto (tgt := 5) dX4_valueOf_157 rfl ?_
        exact MW.sub (subL_s (subL_s (subL_s (subL_s (subL_s (subL_n subL_nil)))))) (ih _ _ _ _ _ _ _ _ hf hX160)
      refine mw_icmp_ge (tgt := 76) dX4_valueOf_23 rfl (fun c6 => ?_) (fun c6 => ?_)
      · rw [if_pos c6] at r135
        refine mw_iload (x := x4) dX4_valueOf_76 rfl ?_
        refine mw_sipush (v := 20012) dX4_valueOf_78 (by decide) ?_
        refine mw_icmp_ne (tgt := 115) dX4_valueOf_81 rfl (fun c70 => ?_) (fun c70 => ?_)
        · rw [if_neg c70] at r135
          refine mw_iload_n (x := v3) dX4_valueOf_115 rfl ?_
          refine mw_iconst (v := 1) dX4_valueOf_116 (by decide) ?_
          refine mw_icmp_le (tgt := 154) dX4_valueOf_117 rfl (fun c71 => ?_) (fun c71 => ?_)
          · rw [if_pos c71] at r135
            obtain ⟨rfl, rfl⟩ := y1 r135
            exact MW.sub (subL_s (subL_s (subL_s (subL_s (subL_s (subL_n subL_nil)))))) J152
          · rw [if_neg c71] at r135
            refine mw_iinc (x := v3) (v := v3 + (-1)) dX4_valueOf_120 rfl rfl (by decide) rfl ?_
            refine mw_aload_n (x := (some a0)) dX4_valueOf_123 rfl ?_
            obtain ⟨x72, e73, r135⟩ := ob r135
            refine ml_getQ dX4_valueOf_124 fl_RX4_31 rfl e73 ?_
            refine mw_iload_n (x := (v3 + (-1))) dX4_valueOf_127 rfl ?_
            refine mw_iconst (v := 1) dX4_valueOf_128 (by decide) ?_
            refine mw_isub dX4_valueOf_129 ?_
            refine mw_iload (x := x4) dX4_valueOf_130 rfl ?_
            refine mw_sipush (v := 20000) dX4_valueOf_132 (by decide) ?_
            refine mw_isub dX4_valueOf_135 ?_
            refine mw_aload_n (x := (some a0)) dX4_valueOf_136 rfl ?_
            obtain ⟨x74, e75, r135⟩ := ob r135
            refine ml_getQ dX4_valueOf_137 fl_RX4_31 rfl e75 ?_
            refine mw_iload_n (x := (v3 + (-1))) dX4_valueOf_140 rfl ?_
            refine mw_iconst (v := 1) dX4_valueOf_141 (by decide) ?_
            refine mw_isub dX4_valueOf_142 ?_
            obtain ⟨x76, e77, r135⟩ := ob r135
            refine ml_iald dX4_valueOf_143 e77 ?_
            refine mw_aload_n (x := (some a0)) dX4_valueOf_144 rfl ?_
            obtain ⟨x78, e79, r135⟩ := ob r135
            refine ml_getQ dX4_valueOf_145 fl_RX4_31 rfl e79 ?_
            refine mw_iload_n (x := (v3 + (-1))) dX4_valueOf_148 rfl ?_
            obtain ⟨x80, e81, r135⟩ := ob r135
            refine ml_iald dX4_valueOf_149 e81 ?_
            obtain ⟨x84, h82, e83, r135⟩ := ob1 r135
            refine ml_callS (mc' := 0) (ms' := 0) [vi (x4 - (20000 : Int32)), vi x76, vi x80] dX4_valueOf_150 mk_X4_join lk_RX4_122 st_X4_join rfl (Nat.le_of_ble_eq_true rfl) (Nat.le_of_ble_eq_true rfl) (t_X4_join E _ e83 isR_rfl) ?_
            obtain ⟨h85, e86, r135⟩ := ob r135
            refine ml_iast dX4_valueOf_153 e86 ?_
            obtain ⟨rfl, rfl⟩ := y1 r135
            exact MW.sub (subL_s (subL_s (subL_s (subL_s (subL_s (subL_n subL_nil)))))) J152
        · rw [if_pos c70] at r135
          refine mw_iload_n (x := v3) dX4_valueOf_84 rfl ?_
          refine mw_if_le (tgt := 154) dX4_valueOf_85 rfl (fun c87 => ?_) (fun c87 => ?_)
          · rw [if_pos c87] at r135
            obtain ⟨rfl, rfl⟩ := y1 r135
            exact MW.sub (subL_s (subL_s (subL_s (subL_s (subL_s (subL_n subL_nil)))))) J152
          · rw [if_neg c87] at r135
            refine mw_aload_n (x := (some a0)) dX4_valueOf_88 rfl ?_
            obtain ⟨x88, e89, r135⟩ := ob r135
            refine ml_getQ dX4_valueOf_89 fl_RX4_31 rfl e89 ?_
            refine mw_iload_n (x := v3) dX4_valueOf_92 rfl ?_
            refine mw_iconst (v := 1) dX4_valueOf_93 (by decide) ?_
            refine mw_isub dX4_valueOf_94 ?_
            refine mw_aload_n (x := (some a0)) dX4_valueOf_95 rfl ?_
            obtain ⟨x90, e91, r135⟩ := ob r135
            refine ml_getQ dX4_valueOf_96 fl_RX4_31 rfl e91 ?_
            refine mw_iload_n (x := v3) dX4_valueOf_99 rfl ?_
            refine mw_iconst (v := 1) dX4_valueOf_100 (by decide) ?_
            refine mw_isub dX4_valueOf_101 ?_
            obtain ⟨x92, e93, r135⟩ := ob r135
            refine ml_iald dX4_valueOf_102 e93 ?_
            obtain ⟨w95, h96, r97, r135⟩ := ob1 r135
            have J153 : MW E m_X4_valueOf (d + 1) mc ms 111 [some (vq (some a0)), some (vq q1), some (vi v2), some (vi v3), some (vi v4), none] [vi w95, vi (v3 - (1 : Int32)), vq x88] h96 K := by
              obtain ⟨h98, e99, r135⟩ := ob r135
              refine ml_iast dX4_valueOf_111 e99 ?_
              refine mw_goto (tgt := 154) dX4_valueOf_112 rfl ?_
              obtain ⟨rfl, rfl⟩ := y1 r135
              exact MW.sub (subL_s (subL_s (subL_s (subL_s (subL_s (subL_n subL_nil)))))) J152
            refine mw_if_ne (tgt := 110) dX4_valueOf_103 rfl (fun c94 => ?_) (fun c94 => ?_)
            · rw [if_neg c94] at r97
              refine mw_iconst (v := 0) dX4_valueOf_110 (by decide) ?_
              obtain ⟨rfl, rfl⟩ := y1 r97
              exact MW.sub (subL_s (subL_s (subL_s (subL_s (subL_s (subL_n subL_nil)))))) J153
            · rw [if_pos c94] at r97
              refine mw_iconst (v := 1) dX4_valueOf_106 (by decide) ?_
              refine mw_goto (tgt := 111) dX4_valueOf_107 rfl ?_
              obtain ⟨rfl, rfl⟩ := y1 r97
              exact MW.sub (subL_s (subL_s (subL_s (subL_s (subL_s (subL_n subL_nil)))))) J153
      · rw [if_neg c6] at r135
        refine mw_iload_n (x := v3) dX4_valueOf_26 rfl ?_
        refine mw_aload_n (x := (some a0)) dX4_valueOf_27 rfl ?_
        obtain ⟨x100, e101, r135⟩ := ob r135
        refine ml_getQ dX4_valueOf_28 fl_RX4_31 rfl e101 ?_
        obtain ⟨x102, e103, r135⟩ := ob r135
        refine ml_alen dX4_valueOf_31 e103 (by decide) (by decide) ?_
        refine mw_icmp_ge (tgt := 154) dX4_valueOf_32 rfl (fun c104 => ?_) (fun c104 => ?_)
        · rw [if_pos c104] at r135
          obtain ⟨rfl, rfl⟩ := y1 r135
          exact MW.sub (subL_s (subL_s (subL_s (subL_s (subL_s (subL_n subL_nil)))))) J152
        · rw [if_neg c104] at r135
          refine mw_aload_n (x := (some a0)) dX4_valueOf_35 rfl ?_
          obtain ⟨x105, e106, r135⟩ := ob r135
          refine ml_getQ dX4_valueOf_36 fl_RX4_31 rfl e106 ?_
          refine mw_iload_n (x := v3) dX4_valueOf_39 rfl ?_
          refine mw_iload (x := x4) dX4_valueOf_40 rfl ?_
          refine mw_sipush (v := 10010) dX4_valueOf_42 (by decide) ?_
          obtain ⟨w128, h129, r130, r135⟩ := ob1 r135
          have J154 : MW E m_X4_valueOf (d + 1) mc ms 69 [some (vq (some a0)), some (vq q1), some (vi v2), some (vi v3), some (vi v4), none] [vi w128, vi v3, vq x105] h129 K := by
            obtain ⟨h131, e132, r135⟩ := ob r135
            refine ml_iast dX4_valueOf_69 e132 ?_
            refine mw_iinc (x := v3) (v := v3 + 1) dX4_valueOf_70 rfl rfl (by decide) rfl ?_
            refine mw_goto (tgt := 154) dX4_valueOf_73 rfl ?_
            obtain ⟨rfl, rfl⟩ := y1 r135
            exact MW.sub (subL_s (subL_s (subL_s (subL_s (subL_s (subL_n subL_nil)))))) J152
          refine mw_icmp_ge (tgt := 58) dX4_valueOf_45 rfl (fun c107 => ?_) (fun c107 => ?_)
          · rw [if_pos c107] at r130
            refine mw_aload_n (x := (some a0)) dX4_valueOf_58 rfl ?_
            refine mw_iload (x := x4) dX4_valueOf_59 rfl ?_
            refine mw_sipush (v := 10010) dX4_valueOf_61 (by decide) ?_
            refine mw_isub dX4_valueOf_64 ?_
            refine mw_iload_n (x := v2) dX4_valueOf_65 rfl ?_
            obtain ⟨g120, e121, r130⟩ := ob r130
            obtain ⟨x122, h118, e119, r130⟩ := ob1 r130
            refine ml_callV (ci := 4) (mc' := 0) (ms' := 0) [vi (x4 - (10010 : Int32)), vi v2] dX4_valueOf_66 mk_X4_habit lk_RX4_117 im_X4_habit se_X4_habit (by decide) e121 rfl (Nat.le_of_ble_eq_true rfl) (Nat.le_of_ble_eq_true rfl) (t_X4_habit E _ e119 isR_rfl) ?_
            obtain ⟨rfl, rfl⟩ := y1 r130
            exact MW.sub (subL_s (subL_s (subL_s (subL_s (subL_s (subL_n subL_nil)))))) J154
          · rw [if_neg c107] at r130
            refine mw_aload_n (x := (some a0)) dX4_valueOf_48 rfl ?_
            refine mw_iload (x := x4) dX4_valueOf_49 rfl ?_
            refine mw_iload_n (x := v2) dX4_valueOf_51 rfl ?_
            obtain ⟨g125, e126, r130⟩ := ob r130
            obtain ⟨x127, h123, e124, r130⟩ := ob1 r130
            refine ml_callV (ci := 4) (mc' := 0) (ms' := 0) [vi x4, vi v2] dX4_valueOf_52 mk_X4_leaf lk_RX4_113 im_X4_leaf se_X4_leaf (by decide) e126 rfl (Nat.le_of_ble_eq_true rfl) (Nat.le_of_ble_eq_true rfl) (t_X4_leaf E _ e124 isR_rfl) ?_
            refine mw_goto (tgt := 69) dX4_valueOf_55 rfl ?_
            obtain ⟨rfl, rfl⟩ := y1 r130
            exact MW.sub (subL_s (subL_s (subL_s (subL_s (subL_s (subL_n subL_nil)))))) J154
set_option maxHeartbeats 4000000 in
theorem t_X4_valueOf (E : En) (d : Nat) {mc ms : Nat} {a0 : Nat} {q1 : Option Nat} {v2 : Int32} {h h' : Hp} {r : Int32} {K : Option Vv → Hp → Prop} (hf : f_X4_valueOf a0 q1 v2 h = some (r, h')) (hk : K (some (vi r)) h') : MC E m_X4_valueOf (d + 1) mc ms [vq (some a0), vq q1, vi v2] h K := by
  unfold f_X4_valueOf at hf
  show MW E m_X4_valueOf (d + 1) mc ms 0 [some (vq (some a0)), some (vq q1), some (vi v2), none, none, none] [] h K
  refine mw_iconst (v := 0) dX4_valueOf_0 (by decide) ?_
  refine mw_istore_n dX4_valueOf_1 (by decide) rfl ?_
  refine mw_iconst (v := 0) dX4_valueOf_2 (by decide) ?_
  refine mw_istore dX4_valueOf_3 (by decide) rfl ?_
  obtain ⟨w136, h137, e150, hf⟩ := ob1 hf
  refine MW.sub (subL_s (subL_s (subL_s (subL_s (subL_s (subL_n subL_nil)))))) (tl_X4_valueOf_5 E d _ _ _ _ _ _ _ _ _ e150 ?_)
  refine mw_iload_n (x := w136) dX4_valueOf_160 rfl ?_
  obtain ⟨w147, h148, r149, hf⟩ := ob1 hf
  have J155 : MW E m_X4_valueOf (d + 1) mc ms 174 [none, none, none, none, none, none] [vi w147] h148 K := by
    obtain ⟨rfl, rfl⟩ := y1 hf
    exact mw_ireturn dX4_valueOf_174 rfl rfl hk
  refine mw_if_le (tgt := 173) dX4_valueOf_161 rfl (fun c138 => ?_) (fun c138 => ?_)
  · rw [if_pos c138] at r149
    refine mw_iconst (v := 0) dX4_valueOf_173 (by decide) ?_
    obtain ⟨rfl, rfl⟩ := y1 r149
    exact MW.sub (subL_n (subL_n (subL_n (subL_n (subL_n (subL_n subL_nil)))))) J155
  · rw [if_neg c138] at r149
    refine mw_aload_n (x := (some a0)) dX4_valueOf_164 rfl ?_
    obtain ⟨x143, e144, r149⟩ := ob r149
    refine ml_getQ dX4_valueOf_165 fl_RX4_31 rfl e144 ?_
    refine mw_iconst (v := 0) dX4_valueOf_168 (by decide) ?_
    obtain ⟨x145, e146, r149⟩ := ob r149
    refine ml_iald dX4_valueOf_169 e146 ?_
    refine mw_goto (tgt := 174) dX4_valueOf_170 rfl ?_
    obtain ⟨rfl, rfl⟩ := y1 r149
    exact MW.sub (subL_n (subL_n (subL_n (subL_n (subL_n (subL_n subL_nil)))))) J155
