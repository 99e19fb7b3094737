theorem dX4_emptyIn_0 : decode cX4_emptyIn 0 = .ok (.iload_n 1, 1) := by decide +kernel
theorem dX4_emptyIn_1 : decode cX4_emptyIn 1 = .ok (.invokestatic 75, 3) := by decide +kernel
theorem dX4_emptyIn_4 : decode cX4_emptyIn 4 = .ok (.ifCond .ne 5, 3) := by decide +kernel
theorem dX4_emptyIn_7 : decode cX4_emptyIn 7 = .ok (.iconst 0, 1) := by decide +kernel
theorem dX4_emptyIn_8 : decode cX4_emptyIn 8 = .ok (.ireturn, 1) := by decide +kernel
theorem dX4_emptyIn_9 : decode cX4_emptyIn 9 = .ok (.aload_n 0, 1) := by decide +kernel
theorem dX4_emptyIn_10 : decode cX4_emptyIn 10 = .ok (.getfield 25, 3) := by decide +kernel
theorem dX4_emptyIn_13 : decode cX4_emptyIn 13 = .ok (.iload_n 1, 1) := by decide +kernel
theorem dX4_emptyIn_14 : decode cX4_emptyIn 14 = .ok (.iaload, 1) := by decide +kernel
theorem dX4_emptyIn_15 : decode cX4_emptyIn 15 = .ok (.iconst (-1), 1) := by decide +kernel
theorem dX4_emptyIn_16 : decode cX4_emptyIn 16 = .ok (.if_icmp .ne 39, 3) := by decide +kernel
theorem dX4_emptyIn_19 : decode cX4_emptyIn 19 = .ok (.aload_n 0, 1) := by decide +kernel
theorem dX4_emptyIn_20 : decode cX4_emptyIn 20 = .ok (.getfield 25, 3) := by decide +kernel
theorem dX4_emptyIn_23 : decode cX4_emptyIn 23 = .ok (.iload_n 1, 1) := by decide +kernel
theorem dX4_emptyIn_24 : decode cX4_emptyIn 24 = .ok (.aload_n 0, 1) := by decide +kernel
theorem dX4_emptyIn_25 : decode cX4_emptyIn 25 = .ok (.getfield 12, 3) := by decide +kernel
theorem dX4_emptyIn_28 : decode cX4_emptyIn 28 = .ok (.getfield 104, 3) := by decide +kernel
theorem dX4_emptyIn_31 : decode cX4_emptyIn 31 = .ok (.ifCond .eq 22, 3) := by decide +kernel
theorem dX4_emptyIn_34 : decode cX4_emptyIn 34 = .ok (.aload_n 0, 1) := by decide +kernel
theorem dX4_emptyIn_35 : decode cX4_emptyIn 35 = .ok (.aload_n 0, 1) := by decide +kernel
theorem dX4_emptyIn_36 : decode cX4_emptyIn 36 = .ok (.getfield 12, 3) := by decide +kernel
theorem dX4_emptyIn_39 : decode cX4_emptyIn 39 = .ok (.getfield 108, 3) := by decide +kernel
theorem dX4_emptyIn_42 : decode cX4_emptyIn 42 = .ok (.iload_n 1, 1) := by decide +kernel
theorem dX4_emptyIn_43 : decode cX4_emptyIn 43 = .ok (.invokevirtual 98, 3) := by decide +kernel
theorem dX4_emptyIn_46 : decode cX4_emptyIn 46 = .ok (.ifCond .eq 7, 3) := by decide +kernel
theorem dX4_emptyIn_49 : decode cX4_emptyIn 49 = .ok (.iconst 1, 1) := by decide +kernel
theorem dX4_emptyIn_50 : decode cX4_emptyIn 50 = .ok (.goto 4, 3) := by decide +kernel
theorem dX4_emptyIn_53 : decode cX4_emptyIn 53 = .ok (.iconst 0, 1) := by decide +kernel
theorem dX4_emptyIn_54 : decode cX4_emptyIn 54 = .ok (.iastore, 1) := by decide +kernel
theorem dX4_emptyIn_55 : decode cX4_emptyIn 55 = .ok (.aload_n 0, 1) := by decide +kernel
theorem dX4_emptyIn_56 : decode cX4_emptyIn 56 = .ok (.getfield 25, 3) := by decide +kernel
theorem dX4_emptyIn_59 : decode cX4_emptyIn 59 = .ok (.iload_n 1, 1) := by decide +kernel
theorem dX4_emptyIn_60 : decode cX4_emptyIn 60 = .ok (.iaload, 1) := by decide +kernel
theorem dX4_emptyIn_61 : decode cX4_emptyIn 61 = .ok (.ireturn, 1) := by decide +kernel
theorem dX4_countIn_0 : decode cX4_countIn 0 = .ok (.iload_n 1, 1) := by decide +kernel
theorem dX4_countIn_1 : decode cX4_countIn 1 = .ok (.invokestatic 75, 3) := by decide +kernel
theorem dX4_countIn_4 : decode cX4_countIn 4 = .ok (.ifCond .ne 5, 3) := by decide +kernel
theorem dX4_countIn_7 : decode cX4_countIn 7 = .ok (.iconst 0, 1) := by decide +kernel
theorem dX4_countIn_8 : decode cX4_countIn 8 = .ok (.ireturn, 1) := by decide +kernel
theorem dX4_countIn_9 : decode cX4_countIn 9 = .ok (.aload_n 0, 1) := by decide +kernel
theorem dX4_countIn_10 : decode cX4_countIn 10 = .ok (.getfield 22, 3) := by decide +kernel
theorem dX4_countIn_13 : decode cX4_countIn 13 = .ok (.iload_n 1, 1) := by decide +kernel
theorem dX4_countIn_14 : decode cX4_countIn 14 = .ok (.iaload, 1) := by decide +kernel
theorem dX4_countIn_15 : decode cX4_countIn 15 = .ok (.iconst (-1), 1) := by decide +kernel
theorem dX4_countIn_16 : decode cX4_countIn 16 = .ok (.if_icmp .eq 10, 3) := by decide +kernel
theorem dX4_countIn_19 : decode cX4_countIn 19 = .ok (.aload_n 0, 1) := by decide +kernel
theorem dX4_countIn_20 : decode cX4_countIn 20 = .ok (.getfield 22, 3) := by decide +kernel
theorem dX4_countIn_23 : decode cX4_countIn 23 = .ok (.iload_n 1, 1) := by decide +kernel
theorem dX4_countIn_24 : decode cX4_countIn 24 = .ok (.iaload, 1) := by decide +kernel
theorem dX4_countIn_25 : decode cX4_countIn 25 = .ok (.ireturn, 1) := by decide +kernel
theorem dX4_countIn_26 : decode cX4_countIn 26 = .ok (.iconst 0, 1) := by decide +kernel
theorem dX4_countIn_27 : decode cX4_countIn 27 = .ok (.istore_n 2, 1) := by decide +kernel
theorem dX4_countIn_28 : decode cX4_countIn 28 = .ok (.iconst 0, 1) := by decide +kernel
theorem dX4_countIn_29 : decode cX4_countIn 29 = .ok (.istore_n 3, 1) := by decide +kernel
theorem dX4_countIn_30 : decode cX4_countIn 30 = .ok (.iconst 0, 1) := by decide +kernel
theorem dX4_countIn_31 : decode cX4_countIn 31 = .ok (.istore 4, 2) := by decide +kernel
theorem dX4_countIn_33 : decode cX4_countIn 33 = .ok (.iconst 0, 1) := by decide +kernel
theorem dX4_countIn_34 : decode cX4_countIn 34 = .ok (.istore 5, 2) := by decide +kernel
theorem dX4_countIn_36 : decode cX4_countIn 36 = .ok (.iload 5, 2) := by decide +kernel
theorem dX4_countIn_38 : decode cX4_countIn 38 = .ok (.aload_n 0, 1) := by decide +kernel
theorem dX4_countIn_39 : decode cX4_countIn 39 = .ok (.getfield 12, 3) := by decide +kernel
theorem dX4_countIn_42 : decode cX4_countIn 42 = .ok (.getfield 79, 3) := by decide +kernel
theorem dX4_countIn_45 : decode cX4_countIn 45 = .ok (.if_icmp .ge 146, 3) := by decide +kernel
theorem dX4_countIn_48 : decode cX4_countIn 48 = .ok (.iload 5, 2) := by decide +kernel
theorem dX4_countIn_50 : decode cX4_countIn 50 = .ok (.aload_n 0, 1) := by decide +kernel
theorem dX4_countIn_51 : decode cX4_countIn 51 = .ok (.getfield 12, 3) := by decide +kernel
theorem dX4_countIn_54 : decode cX4_countIn 54 = .ok (.getfield 82, 3) := by decide +kernel
theorem dX4_countIn_57 : decode cX4_countIn 57 = .ok (.arraylength, 1) := by decide +kernel
theorem dX4_countIn_58 : decode cX4_countIn 58 = .ok (.if_icmp .ge 133, 3) := by decide +kernel
theorem dX4_countIn_61 : decode cX4_countIn 61 = .ok (.aload_n 0, 1) := by decide +kernel
theorem dX4_countIn_62 : decode cX4_countIn 62 = .ok (.getfield 12, 3) := by decide +kernel
theorem dX4_countIn_65 : decode cX4_countIn 65 = .ok (.getfield 82, 3) := by decide +kernel
theorem dX4_countIn_68 : decode cX4_countIn 68 = .ok (.iload 5, 2) := by decide +kernel
theorem dX4_countIn_70 : decode cX4_countIn 70 = .ok (.aaload, 1) := by decide +kernel
theorem dX4_countIn_71 : decode cX4_countIn 71 = .ok (.astore 6, 2) := by decide +kernel
theorem dX4_countIn_73 : decode cX4_countIn 73 = .ok (.aload 6, 2) := by decide +kernel
theorem dX4_countIn_75 : decode cX4_countIn 75 = .ok (.ifnonnull 7, 3) := by decide +kernel
theorem dX4_countIn_78 : decode cX4_countIn 78 = .ok (.iconst 0, 1) := by decide +kernel
theorem dX4_countIn_79 : decode cX4_countIn 79 = .ok (.goto 20, 3) := by decide +kernel
theorem dX4_countIn_82 : decode cX4_countIn 82 = .ok (.aload_n 0, 1) := by decide +kernel
theorem dX4_countIn_83 : decode cX4_countIn 83 = .ok (.getfield 18, 3) := by decide +kernel
theorem dX4_countIn_86 : decode cX4_countIn 86 = .ok (.aload 6, 2) := by decide +kernel
theorem dX4_countIn_88 : decode cX4_countIn 88 = .ok (.getfield 86, 3) := by decide +kernel
theorem dX4_countIn_91 : decode cX4_countIn 91 = .ok (.bipush 104, 2) := by decide +kernel
theorem dX4_countIn_93 : decode cX4_countIn 93 = .ok (.imul, 1) := by decide +kernel
theorem dX4_countIn_94 : decode cX4_countIn 94 = .ok (.iload_n 1, 1) := by decide +kernel
theorem dX4_countIn_95 : decode cX4_countIn 95 = .ok (.iadd, 1) := by decide +kernel
theorem dX4_countIn_96 : decode cX4_countIn 96 = .ok (.invokestatic 91, 3) := by decide +kernel
theorem dX4_countIn_99 : decode cX4_countIn 99 = .ok (.istore 7, 2) := by decide +kernel
theorem dX4_countIn_101 : decode cX4_countIn 101 = .ok (.aload 6, 2) := by decide +kernel
theorem dX4_countIn_103 : decode cX4_countIn 103 = .ok (.ifnull 82, 3) := by decide +kernel
theorem dX4_countIn_106 : decode cX4_countIn 106 = .ok (.iload 7, 2) := by decide +kernel
theorem dX4_countIn_108 : decode cX4_countIn 108 = .ok (.ifCond .le 77, 3) := by decide +kernel
theorem dX4_countIn_111 : decode cX4_countIn 111 = .ok (.iload 4, 2) := by decide +kernel
theorem dX4_countIn_113 : decode cX4_countIn 113 = .ok (.aload 6, 2) := by decide +kernel
theorem dX4_countIn_115 : decode cX4_countIn 115 = .ok (.getfield 86, 3) := by decide +kernel
theorem dX4_countIn_118 : decode cX4_countIn 118 = .ok (.ishr, 1) := by decide +kernel
theorem dX4_countIn_119 : decode cX4_countIn 119 = .ok (.iconst 1, 1) := by decide +kernel
theorem dX4_countIn_120 : decode cX4_countIn 120 = .ok (.iand, 1) := by decide +kernel
theorem dX4_countIn_121 : decode cX4_countIn 121 = .ok (.ifCond .ne 64, 3) := by decide +kernel
theorem dX4_countIn_124 : decode cX4_countIn 124 = .ok (.aload_n 0, 1) := by decide +kernel
theorem dX4_countIn_125 : decode cX4_countIn 125 = .ok (.aload 6, 2) := by decide +kernel
theorem dX4_countIn_127 : decode cX4_countIn 127 = .ok (.getfield 95, 3) := by decide +kernel
theorem dX4_countIn_130 : decode cX4_countIn 130 = .ok (.iload_n 1, 1) := by decide +kernel
theorem dX4_countIn_131 : decode cX4_countIn 131 = .ok (.invokevirtual 98, 3) := by decide +kernel
theorem dX4_countIn_134 : decode cX4_countIn 134 = .ok (.ifCond .eq 51, 3) := by decide +kernel
theorem dX4_countIn_137 : decode cX4_countIn 137 = .ok (.iload 4, 2) := by decide +kernel
theorem dX4_countIn_139 : decode cX4_countIn 139 = .ok (.iconst 1, 1) := by decide +kernel
theorem dX4_countIn_140 : decode cX4_countIn 140 = .ok (.aload 6, 2) := by decide +kernel
theorem dX4_countIn_142 : decode cX4_countIn 142 = .ok (.getfield 86, 3) := by decide +kernel
theorem dX4_countIn_145 : decode cX4_countIn 145 = .ok (.ishl, 1) := by decide +kernel
theorem dX4_countIn_146 : decode cX4_countIn 146 = .ok (.ior, 1) := by decide +kernel
theorem dX4_countIn_147 : decode cX4_countIn 147 = .ok (.istore 4, 2) := by decide +kernel
theorem dX4_countIn_149 : decode cX4_countIn 149 = .ok (.iload_n 2, 1) := by decide +kernel
theorem dX4_countIn_150 : decode cX4_countIn 150 = .ok (.iload 7, 2) := by decide +kernel
theorem dX4_countIn_152 : decode cX4_countIn 152 = .ok (.aload 6, 2) := by decide +kernel
theorem dX4_countIn_154 : decode cX4_countIn 154 = .ok (.getfield 101, 3) := by decide +kernel
theorem dX4_countIn_157 : decode cX4_countIn 157 = .ok (.imul, 1) := by decide +kernel
theorem dX4_countIn_158 : decode cX4_countIn 158 = .ok (.bipush 100, 2) := by decide +kernel
theorem dX4_countIn_160 : decode cX4_countIn 160 = .ok (.idiv, 1) := by decide +kernel
theorem dX4_countIn_161 : decode cX4_countIn 161 = .ok (.iadd, 1) := by decide +kernel
theorem dX4_countIn_162 : decode cX4_countIn 162 = .ok (.istore_n 2, 1) := by decide +kernel
theorem dX4_countIn_163 : decode cX4_countIn 163 = .ok (.iload_n 3, 1) := by decide +kernel
theorem dX4_countIn_164 : decode cX4_countIn 164 = .ok (.aload 6, 2) := by decide +kernel
theorem dX4_countIn_166 : decode cX4_countIn 166 = .ok (.getfield 101, 3) := by decide +kernel
theorem dX4_countIn_169 : decode cX4_countIn 169 = .ok (.ifCond .le 13, 3) := by decide +kernel
theorem dX4_countIn_172 : decode cX4_countIn 172 = .ok (.iconst 1, 1) := by decide +kernel
theorem dX4_countIn_173 : decode cX4_countIn 173 = .ok (.aload 6, 2) := by decide +kernel
theorem dX4_countIn_175 : decode cX4_countIn 175 = .ok (.getfield 86, 3) := by decide +kernel
theorem dX4_countIn_178 : decode cX4_countIn 178 = .ok (.ishl, 1) := by decide +kernel
theorem dX4_countIn_179 : decode cX4_countIn 179 = .ok (.goto 4, 3) := by decide +kernel
theorem dX4_countIn_182 : decode cX4_countIn 182 = .ok (.iconst 0, 1) := by decide +kernel
theorem dX4_countIn_183 : decode cX4_countIn 183 = .ok (.ior, 1) := by decide +kernel
theorem dX4_countIn_184 : decode cX4_countIn 184 = .ok (.istore_n 3, 1) := by decide +kernel
theorem dX4_countIn_185 : decode cX4_countIn 185 = .ok (.iinc 5 1, 3) := by decide +kernel
theorem dX4_countIn_188 : decode cX4_countIn 188 = .ok (.goto (-152), 3) := by decide +kernel
theorem dX4_countIn_191 : decode cX4_countIn 191 = .ok (.aload_n 0, 1) := by decide +kernel
theorem dX4_countIn_192 : decode cX4_countIn 192 = .ok (.getfield 22, 3) := by decide +kernel
theorem dX4_countIn_195 : decode cX4_countIn 195 = .ok (.iload_n 1, 1) := by decide +kernel
theorem dX4_countIn_196 : decode cX4_countIn 196 = .ok (.iload_n 2, 1) := by decide +kernel
theorem dX4_countIn_197 : decode cX4_countIn 197 = .ok (.iastore, 1) := by decide +kernel
theorem dX4_countIn_198 : decode cX4_countIn 198 = .ok (.aload_n 0, 1) := by decide +kernel
theorem dX4_countIn_199 : decode cX4_countIn 199 = .ok (.getfield 28, 3) := by decide +kernel
theorem dX4_countIn_202 : decode cX4_countIn 202 = .ok (.iload_n 1, 1) := by decide +kernel
theorem dX4_countIn_203 : decode cX4_countIn 203 = .ok (.iload_n 3, 1) := by decide +kernel
theorem dX4_countIn_204 : decode cX4_countIn 204 = .ok (.iastore, 1) := by decide +kernel
theorem dX4_countIn_205 : decode cX4_countIn 205 = .ok (.iload_n 2, 1) := by decide +kernel
theorem dX4_countIn_206 : decode cX4_countIn 206 = .ok (.ireturn, 1) := by decide +kernel
theorem dX4_averageFor_0 : decode cX4_averageFor 0 = .ok (.iconst 0, 1) := by decide +kernel
theorem dX4_averageFor_1 : decode cX4_averageFor 1 = .ok (.istore_n 2, 1) := by decide +kernel
theorem dX4_averageFor_2 : decode cX4_averageFor 2 = .ok (.aload_n 0, 1) := by decide +kernel
theorem dX4_averageFor_3 : decode cX4_averageFor 3 = .ok (.getfield 12, 3) := by decide +kernel
theorem dX4_averageFor_6 : decode cX4_averageFor 6 = .ok (.iconst 0, 1) := by decide +kernel
theorem dX4_averageFor_7 : decode cX4_averageFor 7 = .ok (.invokevirtual 126, 3) := by decide +kernel
theorem dX4_averageFor_10 : decode cX4_averageFor 10 = .ok (.istore_n 3, 1) := by decide +kernel
theorem dX4_averageFor_11 : decode cX4_averageFor 11 = .ok (.iload_n 1, 1) := by decide +kernel
theorem dX4_averageFor_12 : decode cX4_averageFor 12 = .ok (.bipush 7, 2) := by decide +kernel
theorem dX4_averageFor_14 : decode cX4_averageFor 14 = .ok (.idiv, 1) := by decide +kernel
theorem dX4_averageFor_15 : decode cX4_averageFor 15 = .ok (.iconst 1, 1) := by decide +kernel
theorem dX4_averageFor_16 : decode cX4_averageFor 16 = .ok (.isub, 1) := by decide +kernel
theorem dX4_averageFor_17 : decode cX4_averageFor 17 = .ok (.istore 4, 2) := by decide +kernel
theorem dX4_averageFor_19 : decode cX4_averageFor 19 = .ok (.iconst 0, 1) := by decide +kernel
theorem dX4_averageFor_20 : decode cX4_averageFor 20 = .ok (.iload 4, 2) := by decide +kernel
theorem dX4_averageFor_22 : decode cX4_averageFor 22 = .ok (.iconst 1, 1) := by decide +kernel
theorem dX4_averageFor_23 : decode cX4_averageFor 23 = .ok (.iadd, 1) := by decide +kernel
theorem dX4_averageFor_24 : decode cX4_averageFor 24 = .ok (.aload_n 0, 1) := by decide +kernel
theorem dX4_averageFor_25 : decode cX4_averageFor 25 = .ok (.getfield 12, 3) := by decide +kernel
theorem dX4_averageFor_28 : decode cX4_averageFor 28 = .ok (.iconst 1, 1) := by decide +kernel
theorem dX4_averageFor_29 : decode cX4_averageFor 29 = .ok (.invokevirtual 126, 3) := by decide +kernel
theorem dX4_averageFor_32 : decode cX4_averageFor 32 = .ok (.isub, 1) := by decide +kernel
theorem dX4_averageFor_33 : decode cX4_averageFor 33 = .ok (.invokestatic 130, 3) := by decide +kernel
theorem dX4_averageFor_36 : decode cX4_averageFor 36 = .ok (.istore 5, 2) := by decide +kernel
theorem dX4_averageFor_38 : decode cX4_averageFor 38 = .ok (.aload_n 0, 1) := by decide +kernel
theorem dX4_averageFor_39 : decode cX4_averageFor 39 = .ok (.iconst 0, 1) := by decide +kernel
theorem dX4_averageFor_40 : decode cX4_averageFor 40 = .ok (.putfield 135, 3) := by decide +kernel
theorem dX4_averageFor_43 : decode cX4_averageFor 43 = .ok (.aload_n 0, 1) := by decide +kernel
theorem dX4_averageFor_44 : decode cX4_averageFor 44 = .ok (.iconst 0, 1) := by decide +kernel
theorem dX4_averageFor_45 : decode cX4_averageFor 45 = .ok (.putfield 138, 3) := by decide +kernel
theorem dX4_averageFor_48 : decode cX4_averageFor 48 = .ok (.iload 4, 2) := by decide +kernel
theorem dX4_averageFor_50 : decode cX4_averageFor 50 = .ok (.istore 6, 2) := by decide +kernel
theorem dX4_averageFor_52 : decode cX4_averageFor 52 = .ok (.iload 6, 2) := by decide +kernel
theorem dX4_averageFor_54 : decode cX4_averageFor 54 = .ok (.iload 5, 2) := by decide +kernel
theorem dX4_averageFor_56 : decode cX4_averageFor 56 = .ok (.if_icmp .lt 63, 3) := by decide +kernel
theorem dX4_averageFor_59 : decode cX4_averageFor 59 = .ok (.aload_n 0, 1) := by decide +kernel
theorem dX4_averageFor_60 : decode cX4_averageFor 60 = .ok (.getfield 135, 3) := by decide +kernel
theorem dX4_averageFor_63 : decode cX4_averageFor 63 = .ok (.iload_n 3, 1) := by decide +kernel
theorem dX4_averageFor_64 : decode cX4_averageFor 64 = .ok (.if_icmp .ge 55, 3) := by decide +kernel
theorem dX4_averageFor_67 : decode cX4_averageFor 67 = .ok (.aload_n 0, 1) := by decide +kernel
theorem dX4_averageFor_68 : decode cX4_averageFor 68 = .ok (.iload 6, 2) := by decide +kernel
theorem dX4_averageFor_70 : decode cX4_averageFor 70 = .ok (.invokevirtual 141, 3) := by decide +kernel
theorem dX4_averageFor_73 : decode cX4_averageFor 73 = .ok (.ifCond .ne 40, 3) := by decide +kernel
theorem dX4_averageFor_76 : decode cX4_averageFor 76 = .ok (.iload_n 2, 1) := by decide +kernel
theorem dX4_averageFor_77 : decode cX4_averageFor 77 = .ok (.aload_n 0, 1) := by decide +kernel
theorem dX4_averageFor_78 : decode cX4_averageFor 78 = .ok (.iload 6, 2) := by decide +kernel
theorem dX4_averageFor_80 : decode cX4_averageFor 80 = .ok (.invokevirtual 144, 3) := by decide +kernel
theorem dX4_averageFor_83 : decode cX4_averageFor 83 = .ok (.iadd, 1) := by decide +kernel
theorem dX4_averageFor_84 : decode cX4_averageFor 84 = .ok (.istore_n 2, 1) := by decide +kernel
theorem dX4_averageFor_85 : decode cX4_averageFor 85 = .ok (.aload_n 0, 1) := by decide +kernel
theorem dX4_averageFor_86 : decode cX4_averageFor 86 = .ok (.dup, 1) := by decide +kernel
theorem dX4_averageFor_87 : decode cX4_averageFor 87 = .ok (.getfield 138, 3) := by decide +kernel
theorem dX4_averageFor_90 : decode cX4_averageFor 90 = .ok (.aload_n 0, 1) := by decide +kernel
theorem dX4_averageFor_91 : decode cX4_averageFor 91 = .ok (.getfield 28, 3) := by decide +kernel
theorem dX4_averageFor_94 : decode cX4_averageFor 94 = .ok (.iload 6, 2) := by decide +kernel
theorem dX4_averageFor_96 : decode cX4_averageFor 96 = .ok (.invokestatic 91, 3) := by decide +kernel
theorem dX4_averageFor_99 : decode cX4_averageFor 99 = .ok (.ior, 1) := by decide +kernel
theorem dX4_averageFor_100 : decode cX4_averageFor 100 = .ok (.putfield 138, 3) := by decide +kernel
theorem dX4_averageFor_103 : decode cX4_averageFor 103 = .ok (.aload_n 0, 1) := by decide +kernel
theorem dX4_averageFor_104 : decode cX4_averageFor 104 = .ok (.dup, 1) := by decide +kernel
theorem dX4_averageFor_105 : decode cX4_averageFor 105 = .ok (.getfield 135, 3) := by decide +kernel
theorem dX4_averageFor_108 : decode cX4_averageFor 108 = .ok (.iconst 1, 1) := by decide +kernel
theorem dX4_averageFor_109 : decode cX4_averageFor 109 = .ok (.iadd, 1) := by decide +kernel
theorem dX4_averageFor_110 : decode cX4_averageFor 110 = .ok (.putfield 135, 3) := by decide +kernel
theorem dX4_averageFor_113 : decode cX4_averageFor 113 = .ok (.iinc 6 (-1), 3) := by decide +kernel
theorem dX4_averageFor_116 : decode cX4_averageFor 116 = .ok (.goto (-64), 3) := by decide +kernel
theorem dX4_averageFor_119 : decode cX4_averageFor 119 = .ok (.aload_n 0, 1) := by decide +kernel
theorem dX4_averageFor_120 : decode cX4_averageFor 120 = .ok (.getfield 135, 3) := by decide +kernel
theorem dX4_averageFor_123 : decode cX4_averageFor 123 = .ok (.ifCond .le 12, 3) := by decide +kernel
theorem dX4_averageFor_126 : decode cX4_averageFor 126 = .ok (.iload_n 2, 1) := by decide +kernel
theorem dX4_averageFor_127 : decode cX4_averageFor 127 = .ok (.aload_n 0, 1) := by decide +kernel
theorem dX4_averageFor_128 : decode cX4_averageFor 128 = .ok (.getfield 135, 3) := by decide +kernel
theorem dX4_averageFor_131 : decode cX4_averageFor 131 = .ok (.idiv, 1) := by decide +kernel
theorem dX4_averageFor_132 : decode cX4_averageFor 132 = .ok (.goto 4, 3) := by decide +kernel
theorem dX4_averageFor_135 : decode cX4_averageFor 135 = .ok (.iconst 0, 1) := by decide +kernel
theorem dX4_averageFor_136 : decode cX4_averageFor 136 = .ok (.ireturn, 1) := by decide +kernel
theorem dX4_listedAt_0 : decode cX4_listedAt 0 = .ok (.iload_n 1, 1) := by decide +kernel
theorem dX4_listedAt_1 : decode cX4_listedAt 1 = .ok (.ifCond .lt 29, 3) := by decide +kernel
theorem dX4_listedAt_4 : decode cX4_listedAt 4 = .ok (.iload_n 1, 1) := by decide +kernel
theorem dX4_listedAt_5 : decode cX4_listedAt 5 = .ok (.aload_n 0, 1) := by decide +kernel
theorem dX4_listedAt_6 : decode cX4_listedAt 6 = .ok (.getfield 172, 3) := by decide +kernel
theorem dX4_listedAt_9 : decode cX4_listedAt 9 = .ok (.if_icmp .ge 21, 3) := by decide +kernel
theorem dX4_listedAt_12 : decode cX4_listedAt 12 = .ok (.iload_n 1, 1) := by decide +kernel
theorem dX4_listedAt_13 : decode cX4_listedAt 13 = .ok (.aload_n 0, 1) := by decide +kernel
theorem dX4_listedAt_14 : decode cX4_listedAt 14 = .ok (.getfield 36, 3) := by decide +kernel
theorem dX4_listedAt_17 : decode cX4_listedAt 17 = .ok (.arraylength, 1) := by decide +kernel
theorem dX4_listedAt_18 : decode cX4_listedAt 18 = .ok (.if_icmp .ge 12, 3) := by decide +kernel
theorem dX4_listedAt_21 : decode cX4_listedAt 21 = .ok (.aload_n 0, 1) := by decide +kernel
theorem dX4_listedAt_22 : decode cX4_listedAt 22 = .ok (.getfield 36, 3) := by decide +kernel
theorem dX4_listedAt_25 : decode cX4_listedAt 25 = .ok (.iload_n 1, 1) := by decide +kernel
theorem dX4_listedAt_26 : decode cX4_listedAt 26 = .ok (.aaload, 1) := by decide +kernel
theorem dX4_listedAt_27 : decode cX4_listedAt 27 = .ok (.goto 4, 3) := by decide +kernel
theorem dX4_listedAt_30 : decode cX4_listedAt 30 = .ok (.aconst_null, 1) := by decide +kernel
theorem dX4_listedAt_31 : decode cX4_listedAt 31 = .ok (.areturn, 1) := by decide +kernel
theorem dX4_withInterest_0 : decode cX4_withInterest 0 = .ok (.aload_n 1, 1) := by decide +kernel
theorem dX4_withInterest_1 : decode cX4_withInterest 1 = .ok (.getfield 179, 3) := by decide +kernel
theorem dX4_withInterest_4 : decode cX4_withInterest 4 = .ok (.i2l, 1) := by decide +kernel
theorem dX4_withInterest_5 : decode cX4_withInterest 5 = .ok (.aload_n 1, 1) := by decide +kernel
theorem dX4_withInterest_6 : decode cX4_withInterest 6 = .ok (.getfield 179, 3) := by decide +kernel
theorem dX4_withInterest_9 : decode cX4_withInterest 9 = .ok (.i2l, 1) := by decide +kernel
theorem dX4_withInterest_10 : decode cX4_withInterest 10 = .ok (.aload_n 0, 1) := by decide +kernel
theorem dX4_withInterest_11 : decode cX4_withInterest 11 = .ok (.getfield 12, 3) := by decide +kernel
theorem dX4_withInterest_14 : decode cX4_withInterest 14 = .ok (.bipush 6, 2) := by decide +kernel
theorem dX4_withInterest_16 : decode cX4_withInterest 16 = .ok (.invokevirtual 126, 3) := by decide +kernel
theorem dX4_withInterest_19 : decode cX4_withInterest 19 = .ok (.i2l, 1) := by decide +kernel
theorem dX4_withInterest_20 : decode cX4_withInterest 20 = .ok (.lmul, 1) := by decide +kernel
theorem dX4_withInterest_21 : decode cX4_withInterest 21 = .ok (.iload_n 2, 1) := by decide +kernel
theorem dX4_withInterest_22 : decode cX4_withInterest 22 = .ok (.aload_n 1, 1) := by decide +kernel
theorem dX4_withInterest_23 : decode cX4_withInterest 23 = .ok (.getfield 153, 3) := by decide +kernel
theorem dX4_withInterest_26 : decode cX4_withInterest 26 = .ok (.isub, 1) := by decide +kernel
theorem dX4_withInterest_27 : decode cX4_withInterest 27 = .ok (.i2l, 1) := by decide +kernel
theorem dX4_withInterest_28 : decode cX4_withInterest 28 = .ok (.lmul, 1) := by decide +kernel
theorem dX4_withInterest_29 : decode cX4_withInterest 29 = .ok (.ldc2_w 202, 3) := by decide +kernel
theorem dX4_withInterest_32 : decode cX4_withInterest 32 = .ok (.ldiv, 1) := by decide +kernel
theorem dX4_withInterest_33 : decode cX4_withInterest 33 = .ok (.ladd, 1) := by decide +kernel
theorem dX4_withInterest_34 : decode cX4_withInterest 34 = .ok (.lreturn, 1) := by decide +kernel
theorem dX4_dueOn_0 : decode cX4_dueOn 0 = .ok (.lconst 0, 1) := by decide +kernel
theorem dX4_dueOn_1 : decode cX4_dueOn 1 = .ok (.lstore_n 2, 1) := by decide +kernel
theorem dX4_dueOn_2 : decode cX4_dueOn 2 = .ok (.aload_n 0, 1) := by decide +kernel
theorem dX4_dueOn_3 : decode cX4_dueOn 3 = .ok (.getfield 199, 3) := by decide +kernel
theorem dX4_dueOn_6 : decode cX4_dueOn 6 = .ok (.istore 4, 2) := by decide +kernel
theorem dX4_dueOn_8 : decode cX4_dueOn 8 = .ok (.iload 4, 2) := by decide +kernel
theorem dX4_dueOn_10 : decode cX4_dueOn 10 = .ok (.aload_n 0, 1) := by decide +kernel
theorem dX4_dueOn_11 : decode cX4_dueOn 11 = .ok (.getfield 192, 3) := by decide +kernel
theorem dX4_dueOn_14 : decode cX4_dueOn 14 = .ok (.if_icmp .gt 32, 3) := by decide +kernel
theorem dX4_dueOn_17 : decode cX4_dueOn 17 = .ok (.aload_n 0, 1) := by decide +kernel
theorem dX4_dueOn_18 : decode cX4_dueOn 18 = .ok (.iload 4, 2) := by decide +kernel
theorem dX4_dueOn_20 : decode cX4_dueOn 20 = .ok (.invokevirtual 195, 3) := by decide +kernel
theorem dX4_dueOn_23 : decode cX4_dueOn 23 = .ok (.astore 5, 2) := by decide +kernel
theorem dX4_dueOn_25 : decode cX4_dueOn 25 = .ok (.aload 5, 2) := by decide +kernel
theorem dX4_dueOn_27 : decode cX4_dueOn 27 = .ok (.ifnull 13, 3) := by decide +kernel
theorem dX4_dueOn_30 : decode cX4_dueOn 30 = .ok (.lload_n 2, 1) := by decide +kernel
theorem dX4_dueOn_31 : decode cX4_dueOn 31 = .ok (.aload_n 0, 1) := by decide +kernel
theorem dX4_dueOn_32 : decode cX4_dueOn 32 = .ok (.aload 5, 2) := by decide +kernel
theorem dX4_dueOn_34 : decode cX4_dueOn 34 = .ok (.iload_n 1, 1) := by decide +kernel
theorem dX4_dueOn_35 : decode cX4_dueOn 35 = .ok (.invokevirtual 204, 3) := by decide +kernel
theorem dX4_dueOn_38 : decode cX4_dueOn 38 = .ok (.ladd, 1) := by decide +kernel
theorem dX4_dueOn_39 : decode cX4_dueOn 39 = .ok (.lstore_n 2, 1) := by decide +kernel
theorem dX4_dueOn_40 : decode cX4_dueOn 40 = .ok (.iinc 4 1, 3) := by decide +kernel
theorem dX4_dueOn_43 : decode cX4_dueOn 43 = .ok (.goto (-35), 3) := by decide +kernel
theorem dX4_dueOn_46 : decode cX4_dueOn 46 = .ok (.lload_n 2, 1) := by decide +kernel
theorem dX4_dueOn_47 : decode cX4_dueOn 47 = .ok (.lreturn, 1) := by decide +kernel
theorem dX4_findChain_0 : decode cX4_findChain 0 = .ok (.aload_n 0, 1) := by decide +kernel
theorem dX4_findChain_1 : decode cX4_findChain 1 = .ok (.iconst (-1), 1) := by decide +kernel
theorem dX4_findChain_2 : decode cX4_findChain 2 = .ok (.putfield 192, 3) := by decide +kernel
theorem dX4_findChain_5 : decode cX4_findChain 5 = .ok (.iconst 0, 1) := by decide +kernel
theorem dX4_findChain_6 : decode cX4_findChain 6 = .ok (.istore_n 2, 1) := by decide +kernel
theorem dX4_findChain_7 : decode cX4_findChain 7 = .ok (.iload_n 2, 1) := by decide +kernel
theorem dX4_findChain_8 : decode cX4_findChain 8 = .ok (.aload_n 0, 1) := by decide +kernel
theorem dX4_findChain_9 : decode cX4_findChain 9 = .ok (.getfield 172, 3) := by decide +kernel
theorem dX4_findChain_12 : decode cX4_findChain 12 = .ok (.if_icmp .ge 32, 3) := by decide +kernel
theorem dX4_findChain_15 : decode cX4_findChain 15 = .ok (.aload_n 0, 1) := by decide +kernel
theorem dX4_findChain_16 : decode cX4_findChain 16 = .ok (.iload_n 2, 1) := by decide +kernel
theorem dX4_findChain_17 : decode cX4_findChain 17 = .ok (.invokevirtual 195, 3) := by decide +kernel
theorem dX4_findChain_20 : decode cX4_findChain 20 = .ok (.astore_n 3, 1) := by decide +kernel
theorem dX4_findChain_21 : decode cX4_findChain 21 = .ok (.aload_n 3, 1) := by decide +kernel
theorem dX4_findChain_22 : decode cX4_findChain 22 = .ok (.ifnull 16, 3) := by decide +kernel
theorem dX4_findChain_25 : decode cX4_findChain 25 = .ok (.aload_n 3, 1) := by decide +kernel
theorem dX4_findChain_26 : decode cX4_findChain 26 = .ok (.getfield 153, 3) := by decide +kernel
theorem dX4_findChain_29 : decode cX4_findChain 29 = .ok (.iload_n 1, 1) := by decide +kernel
theorem dX4_findChain_30 : decode cX4_findChain 30 = .ok (.if_icmp .gt 8, 3) := by decide +kernel
theorem dX4_findChain_33 : decode cX4_findChain 33 = .ok (.aload_n 0, 1) := by decide +kernel
theorem dX4_findChain_34 : decode cX4_findChain 34 = .ok (.iload_n 2, 1) := by decide +kernel
theorem dX4_findChain_35 : decode cX4_findChain 35 = .ok (.putfield 192, 3) := by decide +kernel
theorem dX4_findChain_38 : decode cX4_findChain 38 = .ok (.iinc 2 1, 3) := by decide +kernel
theorem dX4_findChain_41 : decode cX4_findChain 41 = .ok (.goto (-34), 3) := by decide +kernel
theorem dX4_findChain_44 : decode cX4_findChain 44 = .ok (.aload_n 0, 1) := by decide +kernel
theorem dX4_findChain_45 : decode cX4_findChain 45 = .ok (.aload_n 0, 1) := by decide +kernel
theorem dX4_findChain_46 : decode cX4_findChain 46 = .ok (.getfield 192, 3) := by decide +kernel
theorem dX4_findChain_49 : decode cX4_findChain 49 = .ok (.iconst 1, 1) := by decide +kernel
theorem dX4_findChain_50 : decode cX4_findChain 50 = .ok (.iadd, 1) := by decide +kernel
theorem dX4_findChain_51 : decode cX4_findChain 51 = .ok (.putfield 199, 3) := by decide +kernel
theorem dX4_findChain_54 : decode cX4_findChain 54 = .ok (.iload_n 1, 1) := by decide +kernel
theorem dX4_findChain_55 : decode cX4_findChain 55 = .ok (.istore_n 2, 1) := by decide +kernel
theorem dX4_findChain_56 : decode cX4_findChain 56 = .ok (.aload_n 0, 1) := by decide +kernel
theorem dX4_findChain_57 : decode cX4_findChain 57 = .ok (.getfield 12, 3) := by decide +kernel
theorem dX4_findChain_60 : decode cX4_findChain 60 = .ok (.iconst 4, 1) := by decide +kernel
theorem dX4_findChain_61 : decode cX4_findChain 61 = .ok (.invokevirtual 126, 3) := by decide +kernel
theorem dX4_findChain_64 : decode cX4_findChain 64 = .ok (.istore_n 3, 1) := by decide +kernel
theorem dX4_findChain_65 : decode cX4_findChain 65 = .ok (.aload_n 0, 1) := by decide +kernel
theorem dX4_findChain_66 : decode cX4_findChain 66 = .ok (.getfield 192, 3) := by decide +kernel
theorem dX4_findChain_69 : decode cX4_findChain 69 = .ok (.istore 4, 2) := by decide +kernel
theorem dX4_findChain_71 : decode cX4_findChain 71 = .ok (.iload 4, 2) := by decide +kernel
theorem dX4_findChain_73 : decode cX4_findChain 73 = .ok (.ifCond .lt 75, 3) := by decide +kernel
theorem dX4_findChain_76 : decode cX4_findChain 76 = .ok (.aload_n 0, 1) := by decide +kernel
theorem dX4_findChain_77 : decode cX4_findChain 77 = .ok (.iload 4, 2) := by decide +kernel
theorem dX4_findChain_79 : decode cX4_findChain 79 = .ok (.invokevirtual 195, 3) := by decide +kernel
theorem dX4_findChain_82 : decode cX4_findChain 82 = .ok (.astore 5, 2) := by decide +kernel
theorem dX4_findChain_84 : decode cX4_findChain 84 = .ok (.aload 5, 2) := by decide +kernel
theorem dX4_findChain_86 : decode cX4_findChain 86 = .ok (.ifnull 62, 3) := by decide +kernel
theorem dX4_findChain_89 : decode cX4_findChain 89 = .ok (.iload_n 2, 1) := by decide +kernel
theorem dX4_findChain_90 : decode cX4_findChain 90 = .ok (.aload 5, 2) := by decide +kernel
theorem dX4_findChain_92 : decode cX4_findChain 92 = .ok (.getfield 153, 3) := by decide +kernel
theorem dX4_findChain_95 : decode cX4_findChain 95 = .ok (.isub, 1) := by decide +kernel
theorem dX4_findChain_96 : decode cX4_findChain 96 = .ok (.iload_n 3, 1) := by decide +kernel
theorem dX4_findChain_97 : decode cX4_findChain 97 = .ok (.if_icmp .gt 51, 3) := by decide +kernel
theorem dX4_findChain_100 : decode cX4_findChain 100 = .ok (.iload_n 1, 1) := by decide +kernel
theorem dX4_findChain_101 : decode cX4_findChain 101 = .ok (.aload 5, 2) := by decide +kernel
theorem dX4_findChain_103 : decode cX4_findChain 103 = .ok (.getfield 153, 3) := by decide +kernel
theorem dX4_findChain_106 : decode cX4_findChain 106 = .ok (.isub, 1) := by decide +kernel
theorem dX4_findChain_107 : decode cX4_findChain 107 = .ok (.aload_n 0, 1) := by decide +kernel
theorem dX4_findChain_108 : decode cX4_findChain 108 = .ok (.getfield 12, 3) := by decide +kernel
theorem dX4_findChain_111 : decode cX4_findChain 111 = .ok (.iconst 5, 1) := by decide +kernel
theorem dX4_findChain_112 : decode cX4_findChain 112 = .ok (.invokevirtual 126, 3) := by decide +kernel
theorem dX4_findChain_115 : decode cX4_findChain 115 = .ok (.if_icmp .le 6, 3) := by decide +kernel
theorem dX4_findChain_118 : decode cX4_findChain 118 = .ok (.goto 30, 3) := by decide +kernel
theorem dX4_findChain_121 : decode cX4_findChain 121 = .ok (.aload_n 0, 1) := by decide +kernel
theorem dX4_findChain_122 : decode cX4_findChain 122 = .ok (.iload 4, 2) := by decide +kernel
theorem dX4_findChain_124 : decode cX4_findChain 124 = .ok (.putfield 199, 3) := by decide +kernel
theorem dX4_findChain_127 : decode cX4_findChain 127 = .ok (.aload 5, 2) := by decide +kernel
theorem dX4_findChain_129 : decode cX4_findChain 129 = .ok (.getfield 153, 3) := by decide +kernel
theorem dX4_findChain_132 : decode cX4_findChain 132 = .ok (.istore_n 2, 1) := by decide +kernel
theorem dX4_findChain_133 : decode cX4_findChain 133 = .ok (.aload_n 0, 1) := by decide +kernel
theorem dX4_findChain_134 : decode cX4_findChain 134 = .ok (.getfield 12, 3) := by decide +kernel
theorem dX4_findChain_137 : decode cX4_findChain 137 = .ok (.iconst 3, 1) := by decide +kernel
theorem dX4_findChain_138 : decode cX4_findChain 138 = .ok (.invokevirtual 126, 3) := by decide +kernel
theorem dX4_findChain_141 : decode cX4_findChain 141 = .ok (.istore_n 3, 1) := by decide +kernel
theorem dX4_findChain_142 : decode cX4_findChain 142 = .ok (.iinc 4 (-1), 3) := by decide +kernel
theorem dX4_findChain_145 : decode cX4_findChain 145 = .ok (.goto (-74), 3) := by decide +kernel
theorem dX4_findChain_148 : decode cX4_findChain 148 = .ok (.return_, 1) := by decide +kernel
theorem dX4_init_0 : decode cX4_init 0 = .ok (.aload_n 0, 1) := by decide +kernel
theorem dX4_init_1 : decode cX4_init 1 = .ok (.invokespecial 3, 3) := by decide +kernel
theorem dX4_init_4 : decode cX4_init 4 = .ok (.aload_n 0, 1) := by decide +kernel
theorem dX4_init_5 : decode cX4_init 5 = .ok (.new 9, 3) := by decide +kernel
theorem dX4_init_8 : decode cX4_init 8 = .ok (.dup, 1) := by decide +kernel
theorem dX4_init_9 : decode cX4_init 9 = .ok (.invokespecial 11, 3) := by decide +kernel
theorem dX4_init_12 : decode cX4_init 12 = .ok (.putfield 12, 3) := by decide +kernel
theorem dX4_init_15 : decode cX4_init 15 = .ok (.aload_n 0, 1) := by decide +kernel
theorem dX4_init_16 : decode cX4_init 16 = .ok (.sipush 624, 3) := by decide +kernel
theorem dX4_init_19 : decode cX4_init 19 = .ok (.newarray .int, 2) := by decide +kernel
theorem dX4_init_21 : decode cX4_init 21 = .ok (.putfield 18, 3) := by decide +kernel
theorem dX4_init_24 : decode cX4_init 24 = .ok (.aload_n 0, 1) := by decide +kernel
theorem dX4_init_25 : decode cX4_init 25 = .ok (.bipush 104, 2) := by decide +kernel
theorem dX4_init_27 : decode cX4_init 27 = .ok (.newarray .int, 2) := by decide +kernel
theorem dX4_init_29 : decode cX4_init 29 = .ok (.putfield 22, 3) := by decide +kernel
theorem dX4_init_32 : decode cX4_init 32 = .ok (.aload_n 0, 1) := by decide +kernel
theorem dX4_init_33 : decode cX4_init 33 = .ok (.bipush 104, 2) := by decide +kernel
theorem dX4_init_35 : decode cX4_init 35 = .ok (.newarray .int, 2) := by decide +kernel
theorem dX4_init_37 : decode cX4_init 37 = .ok (.putfield 25, 3) := by decide +kernel
theorem dX4_init_40 : decode cX4_init 40 = .ok (.aload_n 0, 1) := by decide +kernel
theorem dX4_init_41 : decode cX4_init 41 = .ok (.bipush 104, 2) := by decide +kernel
theorem dX4_init_43 : decode cX4_init 43 = .ok (.newarray .int, 2) := by decide +kernel
theorem dX4_init_45 : decode cX4_init 45 = .ok (.putfield 28, 3) := by decide +kernel
theorem dX4_init_48 : decode cX4_init 48 = .ok (.aload_n 0, 1) := by decide +kernel
theorem dX4_init_49 : decode cX4_init 49 = .ok (.bipush 80, 2) := by decide +kernel
theorem dX4_init_51 : decode cX4_init 51 = .ok (.newarray .int, 2) := by decide +kernel
theorem dX4_init_53 : decode cX4_init 53 = .ok (.putfield 31, 3) := by decide +kernel
theorem dX4_init_56 : decode cX4_init 56 = .ok (.aload_n 0, 1) := by decide +kernel
theorem dX4_init_57 : decode cX4_init 57 = .ok (.sipush 250, 3) := by decide +kernel
theorem dX4_init_60 : decode cX4_init 60 = .ok (.anewarray 34, 3) := by decide +kernel
theorem dX4_init_63 : decode cX4_init 63 = .ok (.putfield 36, 3) := by decide +kernel
theorem dX4_init_66 : decode cX4_init 66 = .ok (.return_, 1) := by decide +kernel
theorem dX4_insert_0 : decode cX4_insert 0 = .ok (.aload_n 0, 1) := by decide +kernel
theorem dX4_insert_1 : decode cX4_insert 1 = .ok (.getfield 172, 3) := by decide +kernel
theorem dX4_insert_4 : decode cX4_insert 4 = .ok (.ifCond .lt 15, 3) := by decide +kernel
theorem dX4_insert_7 : decode cX4_insert 7 = .ok (.aload_n 0, 1) := by decide +kernel
theorem dX4_insert_8 : decode cX4_insert 8 = .ok (.getfield 172, 3) := by decide +kernel
theorem dX4_insert_11 : decode cX4_insert 11 = .ok (.aload_n 0, 1) := by decide +kernel
theorem dX4_insert_12 : decode cX4_insert 12 = .ok (.getfield 36, 3) := by decide +kernel
theorem dX4_insert_15 : decode cX4_insert 15 = .ok (.arraylength, 1) := by decide +kernel
theorem dX4_insert_16 : decode cX4_insert 16 = .ok (.if_icmp .lt 4, 3) := by decide +kernel
theorem dX4_insert_19 : decode cX4_insert 19 = .ok (.return_, 1) := by decide +kernel
theorem dX4_insert_20 : decode cX4_insert 20 = .ok (.aload_n 0, 1) := by decide +kernel
theorem dX4_insert_21 : decode cX4_insert 21 = .ok (.getfield 172, 3) := by decide +kernel
theorem dX4_insert_24 : decode cX4_insert 24 = .ok (.istore_n 2, 1) := by decide +kernel
theorem dX4_insert_25 : decode cX4_insert 25 = .ok (.iload_n 2, 1) := by decide +kernel
theorem dX4_insert_26 : decode cX4_insert 26 = .ok (.ifCond .le 43, 3) := by decide +kernel
theorem dX4_insert_29 : decode cX4_insert 29 = .ok (.aload_n 0, 1) := by decide +kernel
theorem dX4_insert_30 : decode cX4_insert 30 = .ok (.getfield 36, 3) := by decide +kernel
theorem dX4_insert_33 : decode cX4_insert 33 = .ok (.iload_n 2, 1) := by decide +kernel
theorem dX4_insert_34 : decode cX4_insert 34 = .ok (.iconst 1, 1) := by decide +kernel
theorem dX4_insert_35 : decode cX4_insert 35 = .ok (.isub, 1) := by decide +kernel
theorem dX4_insert_36 : decode cX4_insert 36 = .ok (.aaload, 1) := by decide +kernel
theorem dX4_insert_37 : decode cX4_insert 37 = .ok (.astore_n 3, 1) := by decide +kernel
theorem dX4_insert_38 : decode cX4_insert 38 = .ok (.aload_n 3, 1) := by decide +kernel
theorem dX4_insert_39 : decode cX4_insert 39 = .ok (.ifnull 30, 3) := by decide +kernel
theorem dX4_insert_42 : decode cX4_insert 42 = .ok (.aload_n 3, 1) := by decide +kernel
theorem dX4_insert_43 : decode cX4_insert 43 = .ok (.getfield 153, 3) := by decide +kernel
theorem dX4_insert_46 : decode cX4_insert 46 = .ok (.aload_n 1, 1) := by decide +kernel
theorem dX4_insert_47 : decode cX4_insert 47 = .ok (.getfield 153, 3) := by decide +kernel
theorem dX4_insert_50 : decode cX4_insert 50 = .ok (.if_icmp .gt 6, 3) := by decide +kernel
theorem dX4_insert_53 : decode cX4_insert 53 = .ok (.goto 16, 3) := by decide +kernel
theorem dX4_insert_56 : decode cX4_insert 56 = .ok (.aload_n 0, 1) := by decide +kernel
theorem dX4_insert_57 : decode cX4_insert 57 = .ok (.getfield 36, 3) := by decide +kernel
theorem dX4_insert_60 : decode cX4_insert 60 = .ok (.iload_n 2, 1) := by decide +kernel
theorem dX4_insert_61 : decode cX4_insert 61 = .ok (.aload_n 3, 1) := by decide +kernel
theorem dX4_insert_62 : decode cX4_insert 62 = .ok (.aastore, 1) := by decide +kernel
theorem dX4_insert_63 : decode cX4_insert 63 = .ok (.iinc 2 (-1), 3) := by decide +kernel
theorem dX4_insert_66 : decode cX4_insert 66 = .ok (.goto (-41), 3) := by decide +kernel
theorem dX4_insert_69 : decode cX4_insert 69 = .ok (.aload_n 0, 1) := by decide +kernel
theorem dX4_insert_70 : decode cX4_insert 70 = .ok (.getfield 36, 3) := by decide +kernel
theorem dX4_insert_73 : decode cX4_insert 73 = .ok (.iload_n 2, 1) := by decide +kernel
theorem dX4_insert_74 : decode cX4_insert 74 = .ok (.aload_n 1, 1) := by decide +kernel
theorem dX4_insert_75 : decode cX4_insert 75 = .ok (.aastore, 1) := by decide +kernel
theorem dX4_insert_76 : decode cX4_insert 76 = .ok (.aload_n 0, 1) := by decide +kernel
theorem dX4_insert_77 : decode cX4_insert 77 = .ok (.dup, 1) := by decide +kernel
theorem dX4_insert_78 : decode cX4_insert 78 = .ok (.getfield 172, 3) := by decide +kernel
theorem dX4_insert_81 : decode cX4_insert 81 = .ok (.iconst 1, 1) := by decide +kernel
theorem dX4_insert_82 : decode cX4_insert 82 = .ok (.iadd, 1) := by decide +kernel
theorem dX4_insert_83 : decode cX4_insert 83 = .ok (.putfield 172, 3) := by decide +kernel
theorem dX4_insert_86 : decode cX4_insert 86 = .ok (.return_, 1) := by decide +kernel
theorem dX4_noteClaim_0 : decode cX4_noteClaim 0 = .ok (.aload_n 0, 1) := by decide +kernel
theorem dX4_noteClaim_1 : decode cX4_noteClaim 1 = .ok (.getfield 199, 3) := by decide +kernel
theorem dX4_noteClaim_4 : decode cX4_noteClaim 4 = .ok (.istore_n 2, 1) := by decide +kernel
theorem dX4_noteClaim_5 : decode cX4_noteClaim 5 = .ok (.iload_n 2, 1) := by decide +kernel
theorem dX4_noteClaim_6 : decode cX4_noteClaim 6 = .ok (.aload_n 0, 1) := by decide +kernel
theorem dX4_noteClaim_7 : decode cX4_noteClaim 7 = .ok (.getfield 192, 3) := by decide +kernel
theorem dX4_noteClaim_10 : decode cX4_noteClaim 10 = .ok (.if_icmp .gt 40, 3) := by decide +kernel
theorem dX4_noteClaim_13 : decode cX4_noteClaim 13 = .ok (.aload_n 0, 1) := by decide +kernel
theorem dX4_noteClaim_14 : decode cX4_noteClaim 14 = .ok (.iload_n 2, 1) := by decide +kernel
theorem dX4_noteClaim_15 : decode cX4_noteClaim 15 = .ok (.invokevirtual 195, 3) := by decide +kernel
theorem dX4_noteClaim_18 : decode cX4_noteClaim 18 = .ok (.astore_n 3, 1) := by decide +kernel
theorem dX4_noteClaim_19 : decode cX4_noteClaim 19 = .ok (.aload_n 3, 1) := by decide +kernel
theorem dX4_noteClaim_20 : decode cX4_noteClaim 20 = .ok (.ifnull 24, 3) := by decide +kernel
theorem dX4_noteClaim_23 : decode cX4_noteClaim 23 = .ok (.aload_n 3, 1) := by decide +kernel
theorem dX4_noteClaim_24 : decode cX4_noteClaim 24 = .ok (.getfield 185, 3) := by decide +kernel
theorem dX4_noteClaim_27 : decode cX4_noteClaim 27 = .ok (.iconst (-1), 1) := by decide +kernel
theorem dX4_noteClaim_28 : decode cX4_noteClaim 28 = .ok (.if_icmp .eq 11, 3) := by decide +kernel
theorem dX4_noteClaim_31 : decode cX4_noteClaim 31 = .ok (.iload_n 1, 1) := by decide +kernel
theorem dX4_noteClaim_32 : decode cX4_noteClaim 32 = .ok (.aload_n 3, 1) := by decide +kernel
theorem dX4_noteClaim_33 : decode cX4_noteClaim 33 = .ok (.getfield 185, 3) := by decide +kernel
theorem dX4_noteClaim_36 : decode cX4_noteClaim 36 = .ok (.if_icmp .ge 8, 3) := by decide +kernel
theorem dX4_noteClaim_39 : decode cX4_noteClaim 39 = .ok (.aload_n 3, 1) := by decide +kernel
theorem dX4_noteClaim_40 : decode cX4_noteClaim 40 = .ok (.iload_n 1, 1) := by decide +kernel
theorem dX4_noteClaim_41 : decode cX4_noteClaim 41 = .ok (.putfield 185, 3) := by decide +kernel
theorem dX4_noteClaim_44 : decode cX4_noteClaim 44 = .ok (.iinc 2 1, 3) := by decide +kernel
theorem dX4_noteClaim_47 : decode cX4_noteClaim 47 = .ok (.goto (-42), 3) := by decide +kernel
theorem dX4_noteClaim_50 : decode cX4_noteClaim 50 = .ok (.return_, 1) := by decide +kernel
theorem dX4_joinClaims_0 : decode cX4_joinClaims 0 = .ok (.aload_n 0, 1) := by decide +kernel
theorem dX4_joinClaims_1 : decode cX4_joinClaims 1 = .ok (.getfield 46, 3) := by decide +kernel
theorem dX4_joinClaims_4 : decode cX4_joinClaims 4 = .ok (.astore_n 2, 1) := by decide +kernel
theorem dX4_joinClaims_5 : decode cX4_joinClaims 5 = .ok (.aload_n 2, 1) := by decide +kernel
theorem dX4_joinClaims_6 : decode cX4_joinClaims 6 = .ok (.ifnull 43, 3) := by decide +kernel
theorem dX4_joinClaims_9 : decode cX4_joinClaims 9 = .ok (.aload_n 2, 1) := by decide +kernel
theorem dX4_joinClaims_10 : decode cX4_joinClaims 10 = .ok (.getfield 147, 3) := by decide +kernel
theorem dX4_joinClaims_13 : decode cX4_joinClaims 13 = .ok (.iconst 5, 1) := by decide +kernel
theorem dX4_joinClaims_14 : decode cX4_joinClaims 14 = .ok (.if_icmp .ne 27, 3) := by decide +kernel
theorem dX4_joinClaims_17 : decode cX4_joinClaims 17 = .ok (.aload_n 2, 1) := by decide +kernel
theorem dX4_joinClaims_18 : decode cX4_joinClaims 18 = .ok (.iload_n 1, 1) := by decide +kernel
theorem dX4_joinClaims_19 : decode cX4_joinClaims 19 = .ok (.invokevirtual 150, 3) := by decide +kernel
theorem dX4_joinClaims_22 : decode cX4_joinClaims 22 = .ok (.ifCond .eq 19, 3) := by decide +kernel
theorem dX4_joinClaims_25 : decode cX4_joinClaims 25 = .ok (.aload_n 0, 1) := by decide +kernel
theorem dX4_joinClaims_26 : decode cX4_joinClaims 26 = .ok (.aload_n 2, 1) := by decide +kernel
theorem dX4_joinClaims_27 : decode cX4_joinClaims 27 = .ok (.getfield 153, 3) := by decide +kernel
theorem dX4_joinClaims_30 : decode cX4_joinClaims 30 = .ok (.invokevirtual 208, 3) := by decide +kernel
theorem dX4_joinClaims_33 : decode cX4_joinClaims 33 = .ok (.aload_n 0, 1) := by decide +kernel
theorem dX4_joinClaims_34 : decode cX4_joinClaims 34 = .ok (.aload_n 2, 1) := by decide +kernel
theorem dX4_joinClaims_35 : decode cX4_joinClaims 35 = .ok (.getfield 153, 3) := by decide +kernel
theorem dX4_joinClaims_38 : decode cX4_joinClaims 38 = .ok (.invokevirtual 212, 3) := by decide +kernel
theorem dX4_joinClaims_41 : decode cX4_joinClaims 41 = .ok (.aload_n 2, 1) := by decide +kernel
theorem dX4_joinClaims_42 : decode cX4_joinClaims 42 = .ok (.getfield 163, 3) := by decide +kernel
theorem dX4_joinClaims_45 : decode cX4_joinClaims 45 = .ok (.astore_n 2, 1) := by decide +kernel
theorem dX4_joinClaims_46 : decode cX4_joinClaims 46 = .ok (.goto (-41), 3) := by decide +kernel
theorem dX4_joinClaims_49 : decode cX4_joinClaims 49 = .ok (.aload_n 0, 1) := by decide +kernel
theorem dX4_joinClaims_50 : decode cX4_joinClaims 50 = .ok (.lconst 0, 1) := by decide +kernel
theorem dX4_joinClaims_51 : decode cX4_joinClaims 51 = .ok (.putfield 215, 3) := by decide +kernel
theorem dX4_joinClaims_54 : decode cX4_joinClaims 54 = .ok (.aload_n 0, 1) := by decide +kernel
theorem dX4_joinClaims_55 : decode cX4_joinClaims 55 = .ok (.iconst 0, 1) := by decide +kernel
theorem dX4_joinClaims_56 : decode cX4_joinClaims 56 = .ok (.putfield 219, 3) := by decide +kernel
theorem dX4_joinClaims_59 : decode cX4_joinClaims 59 = .ok (.iconst 0, 1) := by decide +kernel
theorem dX4_joinClaims_60 : decode cX4_joinClaims 60 = .ok (.istore_n 2, 1) := by decide +kernel
theorem dX4_joinClaims_61 : decode cX4_joinClaims 61 = .ok (.iload_n 2, 1) := by decide +kernel
theorem dX4_joinClaims_62 : decode cX4_joinClaims 62 = .ok (.aload_n 0, 1) := by decide +kernel
theorem dX4_joinClaims_63 : decode cX4_joinClaims 63 = .ok (.getfield 172, 3) := by decide +kernel
theorem dX4_joinClaims_66 : decode cX4_joinClaims 66 = .ok (.if_icmp .ge 58, 3) := by decide +kernel
theorem dX4_joinClaims_69 : decode cX4_joinClaims 69 = .ok (.aload_n 0, 1) := by decide +kernel
theorem dX4_joinClaims_70 : decode cX4_joinClaims 70 = .ok (.iload_n 2, 1) := by decide +kernel
theorem dX4_joinClaims_71 : decode cX4_joinClaims 71 = .ok (.invokevirtual 195, 3) := by decide +kernel
theorem dX4_joinClaims_74 : decode cX4_joinClaims 74 = .ok (.astore_n 3, 1) := by decide +kernel
theorem dX4_joinClaims_75 : decode cX4_joinClaims 75 = .ok (.aload_n 3, 1) := by decide +kernel
theorem dX4_joinClaims_76 : decode cX4_joinClaims 76 = .ok (.ifnull 42, 3) := by decide +kernel
theorem dX4_joinClaims_79 : decode cX4_joinClaims 79 = .ok (.aload_n 3, 1) := by decide +kernel
theorem dX4_joinClaims_80 : decode cX4_joinClaims 80 = .ok (.getfield 185, 3) := by decide +kernel
theorem dX4_joinClaims_83 : decode cX4_joinClaims 83 = .ok (.iconst (-1), 1) := by decide +kernel
theorem dX4_joinClaims_84 : decode cX4_joinClaims 84 = .ok (.if_icmp .eq 34, 3) := by decide +kernel
theorem dX4_joinClaims_87 : decode cX4_joinClaims 87 = .ok (.aload_n 0, 1) := by decide +kernel
theorem dX4_joinClaims_88 : decode cX4_joinClaims 88 = .ok (.dup, 1) := by decide +kernel
theorem dX4_joinClaims_89 : decode cX4_joinClaims 89 = .ok (.getfield 215, 3) := by decide +kernel
theorem dX4_joinClaims_92 : decode cX4_joinClaims 92 = .ok (.aload_n 0, 1) := by decide +kernel
theorem dX4_joinClaims_93 : decode cX4_joinClaims 93 = .ok (.aload_n 3, 1) := by decide +kernel
theorem dX4_joinClaims_94 : decode cX4_joinClaims 94 = .ok (.aload_n 3, 1) := by decide +kernel
theorem dX4_joinClaims_95 : decode cX4_joinClaims 95 = .ok (.getfield 185, 3) := by decide +kernel
theorem dX4_joinClaims_98 : decode cX4_joinClaims 98 = .ok (.invokevirtual 204, 3) := by decide +kernel
theorem dX4_joinClaims_101 : decode cX4_joinClaims 101 = .ok (.ladd, 1) := by decide +kernel
theorem dX4_joinClaims_102 : decode cX4_joinClaims 102 = .ok (.putfield 215, 3) := by decide +kernel
theorem dX4_joinClaims_105 : decode cX4_joinClaims 105 = .ok (.aload_n 0, 1) := by decide +kernel
theorem dX4_joinClaims_106 : decode cX4_joinClaims 106 = .ok (.dup, 1) := by decide +kernel
theorem dX4_joinClaims_107 : decode cX4_joinClaims 107 = .ok (.getfield 219, 3) := by decide +kernel
theorem dX4_joinClaims_110 : decode cX4_joinClaims 110 = .ok (.aload_n 3, 1) := by decide +kernel
theorem dX4_joinClaims_111 : decode cX4_joinClaims 111 = .ok (.getfield 182, 3) := by decide +kernel
theorem dX4_joinClaims_114 : decode cX4_joinClaims 114 = .ok (.ior, 1) := by decide +kernel
theorem dX4_joinClaims_115 : decode cX4_joinClaims 115 = .ok (.putfield 219, 3) := by decide +kernel
theorem dX4_joinClaims_118 : decode cX4_joinClaims 118 = .ok (.iinc 2 1, 3) := by decide +kernel
theorem dX4_joinClaims_121 : decode cX4_joinClaims 121 = .ok (.goto (-60), 3) := by decide +kernel
theorem dX4_joinClaims_124 : decode cX4_joinClaims 124 = .ok (.return_, 1) := by decide +kernel
theorem dX4_links_0 : decode cX4_links 0 = .ok (.aload_n 0, 1) := by decide +kernel
theorem dX4_links_1 : decode cX4_links 1 = .ok (.getfield 192, 3) := by decide +kernel
theorem dX4_links_4 : decode cX4_links 4 = .ok (.aload_n 0, 1) := by decide +kernel
theorem dX4_links_5 : decode cX4_links 5 = .ok (.getfield 199, 3) := by decide +kernel
theorem dX4_links_8 : decode cX4_links 8 = .ok (.isub, 1) := by decide +kernel
theorem dX4_links_9 : decode cX4_links 9 = .ok (.iconst 1, 1) := by decide +kernel
theorem dX4_links_10 : decode cX4_links 10 = .ok (.iadd, 1) := by decide +kernel
theorem dX4_links_11 : decode cX4_links 11 = .ok (.ireturn, 1) := by decide +kernel
theorem dX4_owedFor_0 : decode cX4_owedFor 0 = .ok (.aload_n 0, 1) := by decide +kernel
theorem dX4_owedFor_1 : decode cX4_owedFor 1 = .ok (.getfield 46, 3) := by decide +kernel
theorem dX4_owedFor_4 : decode cX4_owedFor 4 = .ok (.astore_n 3, 1) := by decide +kernel
theorem dX4_owedFor_5 : decode cX4_owedFor 5 = .ok (.aload_n 3, 1) := by decide +kernel
theorem dX4_owedFor_6 : decode cX4_owedFor 6 = .ok (.ifnull 47, 3) := by decide +kernel
theorem dX4_owedFor_9 : decode cX4_owedFor 9 = .ok (.aload_n 3, 1) := by decide +kernel
theorem dX4_owedFor_10 : decode cX4_owedFor 10 = .ok (.getfield 147, 3) := by decide +kernel
theorem dX4_owedFor_13 : decode cX4_owedFor 13 = .ok (.iconst 4, 1) := by decide +kernel
theorem dX4_owedFor_14 : decode cX4_owedFor 14 = .ok (.if_icmp .ne 31, 3) := by decide +kernel
theorem dX4_owedFor_17 : decode cX4_owedFor 17 = .ok (.aload_n 3, 1) := by decide +kernel
theorem dX4_owedFor_18 : decode cX4_owedFor 18 = .ok (.iload_n 2, 1) := by decide +kernel
theorem dX4_owedFor_19 : decode cX4_owedFor 19 = .ok (.invokevirtual 150, 3) := by decide +kernel
theorem dX4_owedFor_22 : decode cX4_owedFor 22 = .ok (.ifCond .eq 23, 3) := by decide +kernel
theorem dX4_owedFor_25 : decode cX4_owedFor 25 = .ok (.aload_n 1, 1) := by decide +kernel
theorem dX4_owedFor_26 : decode cX4_owedFor 26 = .ok (.getfield 153, 3) := by decide +kernel
theorem dX4_owedFor_29 : decode cX4_owedFor 29 = .ok (.aload_n 3, 1) := by decide +kernel
theorem dX4_owedFor_30 : decode cX4_owedFor 30 = .ok (.getfield 153, 3) := by decide +kernel
theorem dX4_owedFor_33 : decode cX4_owedFor 33 = .ok (.aload_n 3, 1) := by decide +kernel
theorem dX4_owedFor_34 : decode cX4_owedFor 34 = .ok (.getfield 156, 3) := by decide +kernel
theorem dX4_owedFor_37 : decode cX4_owedFor 37 = .ok (.invokestatic 159, 3) := by decide +kernel
theorem dX4_owedFor_40 : decode cX4_owedFor 40 = .ok (.ifCond .eq 5, 3) := by decide +kernel
theorem dX4_owedFor_43 : decode cX4_owedFor 43 = .ok (.iconst 0, 1) := by decide +kernel
theorem dX4_owedFor_44 : decode cX4_owedFor 44 = .ok (.ireturn, 1) := by decide +kernel
theorem dX4_owedFor_45 : decode cX4_owedFor 45 = .ok (.aload_n 3, 1) := by decide +kernel
theorem dX4_owedFor_46 : decode cX4_owedFor 46 = .ok (.getfield 163, 3) := by decide +kernel
theorem dX4_owedFor_49 : decode cX4_owedFor 49 = .ok (.astore_n 3, 1) := by decide +kernel
theorem dX4_owedFor_50 : decode cX4_owedFor 50 = .ok (.goto (-45), 3) := by decide +kernel
theorem dX4_owedFor_53 : decode cX4_owedFor 53 = .ok (.aload_n 0, 1) := by decide +kernel
theorem dX4_owedFor_54 : decode cX4_owedFor 54 = .ok (.getfield 12, 3) := by decide +kernel
theorem dX4_owedFor_57 : decode cX4_owedFor 57 = .ok (.iconst 2, 1) := by decide +kernel
theorem dX4_owedFor_58 : decode cX4_owedFor 58 = .ok (.invokevirtual 126, 3) := by decide +kernel
theorem dX4_owedFor_61 : decode cX4_owedFor 61 = .ok (.istore_n 3, 1) := by decide +kernel
theorem dX4_owedFor_62 : decode cX4_owedFor 62 = .ok (.iload_n 3, 1) := by decide +kernel
theorem dX4_owedFor_63 : decode cX4_owedFor 63 = .ok (.ifCond .le 21, 3) := by decide +kernel
theorem dX4_owedFor_66 : decode cX4_owedFor 66 = .ok (.aload_n 0, 1) := by decide +kernel
theorem dX4_owedFor_67 : decode cX4_owedFor 67 = .ok (.aload_n 1, 1) := by decide +kernel
theorem dX4_owedFor_68 : decode cX4_owedFor 68 = .ok (.getfield 153, 3) := by decide +kernel
theorem dX4_owedFor_71 : decode cX4_owedFor 71 = .ok (.invokevirtual 166, 3) := by decide +kernel
theorem dX4_owedFor_74 : decode cX4_owedFor 74 = .ok (.aload_n 1, 1) := by decide +kernel
theorem dX4_owedFor_75 : decode cX4_owedFor 75 = .ok (.getfield 156, 3) := by decide +kernel
theorem dX4_owedFor_78 : decode cX4_owedFor 78 = .ok (.imul, 1) := by decide +kernel
theorem dX4_owedFor_79 : decode cX4_owedFor 79 = .ok (.iload_n 3, 1) := by decide +kernel
theorem dX4_owedFor_80 : decode cX4_owedFor 80 = .ok (.idiv, 1) := by decide +kernel
theorem dX4_owedFor_81 : decode cX4_owedFor 81 = .ok (.goto 4, 3) := by decide +kernel
theorem dX4_owedFor_84 : decode cX4_owedFor 84 = .ok (.iconst 0, 1) := by decide +kernel
theorem dX4_owedFor_85 : decode cX4_owedFor 85 = .ok (.istore 4, 2) := by decide +kernel
theorem dX4_owedFor_87 : decode cX4_owedFor 87 = .ok (.iconst 0, 1) := by decide +kernel
theorem dX4_owedFor_88 : decode cX4_owedFor 88 = .ok (.iload 4, 2) := by decide +kernel
theorem dX4_owedFor_90 : decode cX4_owedFor 90 = .ok (.aload_n 1, 1) := by decide +kernel
theorem dX4_owedFor_91 : decode cX4_owedFor 91 = .ok (.getfield 169, 3) := by decide +kernel
theorem dX4_owedFor_94 : decode cX4_owedFor 94 = .ok (.isub, 1) := by decide +kernel
theorem dX4_owedFor_95 : decode cX4_owedFor 95 = .ok (.invokestatic 130, 3) := by decide +kernel
theorem dX4_owedFor_98 : decode cX4_owedFor 98 = .ok (.ireturn, 1) := by decide +kernel
theorem dX4_listHolidays_0 : decode cX4_listHolidays 0 = .ok (.aload_n 0, 1) := by decide +kernel
theorem dX4_listHolidays_1 : decode cX4_listHolidays 1 = .ok (.iconst 0, 1) := by decide +kernel
theorem dX4_listHolidays_2 : decode cX4_listHolidays 2 = .ok (.putfield 172, 3) := by decide +kernel
theorem dX4_listHolidays_5 : decode cX4_listHolidays 5 = .ok (.aload_n 0, 1) := by decide +kernel
theorem dX4_listHolidays_6 : decode cX4_listHolidays 6 = .ok (.getfield 46, 3) := by decide +kernel
theorem dX4_listHolidays_9 : decode cX4_listHolidays 9 = .ok (.astore_n 2, 1) := by decide +kernel
theorem dX4_listHolidays_10 : decode cX4_listHolidays 10 = .ok (.aload_n 2, 1) := by decide +kernel
theorem dX4_listHolidays_11 : decode cX4_listHolidays 11 = .ok (.ifnull 65, 3) := by decide +kernel
theorem dX4_listHolidays_14 : decode cX4_listHolidays 14 = .ok (.aload_n 2, 1) := by decide +kernel
theorem dX4_listHolidays_15 : decode cX4_listHolidays 15 = .ok (.getfield 147, 3) := by decide +kernel
theorem dX4_listHolidays_18 : decode cX4_listHolidays 18 = .ok (.iconst 3, 1) := by decide +kernel
theorem dX4_listHolidays_19 : decode cX4_listHolidays 19 = .ok (.if_icmp .ne 20, 3) := by decide +kernel
theorem dX4_listHolidays_22 : decode cX4_listHolidays 22 = .ok (.aload_n 2, 1) := by decide +kernel
theorem dX4_listHolidays_23 : decode cX4_listHolidays 23 = .ok (.iload_n 1, 1) := by decide +kernel
theorem dX4_listHolidays_24 : decode cX4_listHolidays 24 = .ok (.invokevirtual 150, 3) := by decide +kernel
theorem dX4_listHolidays_27 : decode cX4_listHolidays 27 = .ok (.ifCond .eq 12, 3) := by decide +kernel
theorem dX4_listHolidays_30 : decode cX4_listHolidays 30 = .ok (.aload_n 0, 1) := by decide +kernel
theorem dX4_listHolidays_31 : decode cX4_listHolidays 31 = .ok (.aload_n 2, 1) := by decide +kernel
theorem dX4_listHolidays_32 : decode cX4_listHolidays 32 = .ok (.iload_n 1, 1) := by decide +kernel
theorem dX4_listHolidays_33 : decode cX4_listHolidays 33 = .ok (.invokevirtual 175, 3) := by decide +kernel
theorem dX4_listHolidays_36 : decode cX4_listHolidays 36 = .ok (.goto 4, 3) := by decide +kernel
theorem dX4_listHolidays_39 : decode cX4_listHolidays 39 = .ok (.iconst 0, 1) := by decide +kernel
theorem dX4_listHolidays_40 : decode cX4_listHolidays 40 = .ok (.istore_n 3, 1) := by decide +kernel
theorem dX4_listHolidays_41 : decode cX4_listHolidays 41 = .ok (.iload_n 3, 1) := by decide +kernel
theorem dX4_listHolidays_42 : decode cX4_listHolidays 42 = .ok (.ifCond .le 26, 3) := by decide +kernel
theorem dX4_listHolidays_45 : decode cX4_listHolidays 45 = .ok (.aload_n 2, 1) := by decide +kernel
theorem dX4_listHolidays_46 : decode cX4_listHolidays 46 = .ok (.iload_n 3, 1) := by decide +kernel
theorem dX4_listHolidays_47 : decode cX4_listHolidays 47 = .ok (.putfield 179, 3) := by decide +kernel
theorem dX4_listHolidays_50 : decode cX4_listHolidays 50 = .ok (.aload_n 2, 1) := by decide +kernel
theorem dX4_listHolidays_51 : decode cX4_listHolidays 51 = .ok (.aload_n 0, 1) := by decide +kernel
theorem dX4_listHolidays_52 : decode cX4_listHolidays 52 = .ok (.getfield 138, 3) := by decide +kernel
theorem dX4_listHolidays_55 : decode cX4_listHolidays 55 = .ok (.putfield 182, 3) := by decide +kernel
theorem dX4_listHolidays_58 : decode cX4_listHolidays 58 = .ok (.aload_n 2, 1) := by decide +kernel
theorem dX4_listHolidays_59 : decode cX4_listHolidays 59 = .ok (.iconst (-1), 1) := by decide +kernel
theorem dX4_listHolidays_60 : decode cX4_listHolidays 60 = .ok (.putfield 185, 3) := by decide +kernel
theorem dX4_listHolidays_63 : decode cX4_listHolidays 63 = .ok (.aload_n 0, 1) := by decide +kernel
theorem dX4_listHolidays_64 : decode cX4_listHolidays 64 = .ok (.aload_n 2, 1) := by decide +kernel
theorem dX4_listHolidays_65 : decode cX4_listHolidays 65 = .ok (.invokevirtual 188, 3) := by decide +kernel
theorem dX4_listHolidays_68 : decode cX4_listHolidays 68 = .ok (.aload_n 2, 1) := by decide +kernel
theorem dX4_listHolidays_69 : decode cX4_listHolidays 69 = .ok (.getfield 163, 3) := by decide +kernel
theorem dX4_listHolidays_72 : decode cX4_listHolidays 72 = .ok (.astore_n 2, 1) := by decide +kernel
theorem dX4_listHolidays_73 : decode cX4_listHolidays 73 = .ok (.goto (-63), 3) := by decide +kernel
theorem dX4_listHolidays_76 : decode cX4_listHolidays 76 = .ok (.return_, 1) := by decide +kernel
theorem dX4_open_0 : decode cX4_open 0 = .ok (.aload_n 0, 1) := by decide +kernel
theorem dX4_open_1 : decode cX4_open 1 = .ok (.aload_n 1, 1) := by decide +kernel
theorem dX4_open_2 : decode cX4_open 2 = .ok (.putfield 12, 3) := by decide +kernel
theorem dX4_open_5 : decode cX4_open 5 = .ok (.aload_n 0, 1) := by decide +kernel
theorem dX4_open_6 : decode cX4_open 6 = .ok (.aload_n 2, 1) := by decide +kernel
theorem dX4_open_7 : decode cX4_open 7 = .ok (.getfield 40, 3) := by decide +kernel
theorem dX4_open_10 : decode cX4_open 10 = .ok (.putfield 46, 3) := by decide +kernel
theorem dX4_open_13 : decode cX4_open 13 = .ok (.aload_n 0, 1) := by decide +kernel
theorem dX4_open_14 : decode cX4_open 14 = .ok (.aload_n 2, 1) := by decide +kernel
theorem dX4_open_15 : decode cX4_open 15 = .ok (.getfield 47, 3) := by decide +kernel
theorem dX4_open_18 : decode cX4_open 18 = .ok (.putfield 51, 3) := by decide +kernel
theorem dX4_open_21 : decode cX4_open 21 = .ok (.aload_n 0, 1) := by decide +kernel
theorem dX4_open_22 : decode cX4_open 22 = .ok (.aload_n 2, 1) := by decide +kernel
theorem dX4_open_23 : decode cX4_open 23 = .ok (.getfield 52, 3) := by decide +kernel
theorem dX4_open_26 : decode cX4_open 26 = .ok (.putfield 55, 3) := by decide +kernel
theorem dX4_open_29 : decode cX4_open 29 = .ok (.aload_n 2, 1) := by decide +kernel
theorem dX4_open_30 : decode cX4_open 30 = .ok (.getfield 56, 3) := by decide +kernel
theorem dX4_open_33 : decode cX4_open 33 = .ok (.iconst 0, 1) := by decide +kernel
theorem dX4_open_34 : decode cX4_open 34 = .ok (.aload_n 0, 1) := by decide +kernel
theorem dX4_open_35 : decode cX4_open 35 = .ok (.getfield 18, 3) := by decide +kernel
theorem dX4_open_38 : decode cX4_open 38 = .ok (.iconst 0, 1) := by decide +kernel
theorem dX4_open_39 : decode cX4_open 39 = .ok (.sipush 624, 3) := by decide +kernel
theorem dX4_open_42 : decode cX4_open 42 = .ok (.invokestatic 57, 3) := by decide +kernel
theorem dX4_open_45 : decode cX4_open 45 = .ok (.iload_n 3, 1) := by decide +kernel
theorem dX4_open_46 : decode cX4_open 46 = .ok (.ifCond .eq 10, 3) := by decide +kernel
theorem dX4_open_49 : decode cX4_open 49 = .ok (.aload_n 2, 1) := by decide +kernel
theorem dX4_open_50 : decode cX4_open 50 = .ok (.getfield 63, 3) := by decide +kernel
theorem dX4_open_53 : decode cX4_open 53 = .ok (.goto 7, 3) := by decide +kernel
theorem dX4_open_56 : decode cX4_open 56 = .ok (.aload_n 2, 1) := by decide +kernel
theorem dX4_open_57 : decode cX4_open 57 = .ok (.getfield 66, 3) := by decide +kernel
theorem dX4_open_60 : decode cX4_open 60 = .ok (.iconst 0, 1) := by decide +kernel
theorem dX4_open_61 : decode cX4_open 61 = .ok (.aload_n 0, 1) := by decide +kernel
theorem dX4_open_62 : decode cX4_open 62 = .ok (.getfield 18, 3) := by decide +kernel
theorem dX4_open_65 : decode cX4_open 65 = .ok (.iconst 0, 1) := by decide +kernel
theorem dX4_open_66 : decode cX4_open 66 = .ok (.bipush 104, 2) := by decide +kernel
theorem dX4_open_68 : decode cX4_open 68 = .ok (.invokestatic 57, 3) := by decide +kernel
theorem dX4_open_71 : decode cX4_open 71 = .ok (.aload_n 0, 1) := by decide +kernel
theorem dX4_open_72 : decode cX4_open 72 = .ok (.getfield 22, 3) := by decide +kernel
theorem dX4_open_75 : decode cX4_open 75 = .ok (.iconst (-1), 1) := by decide +kernel
theorem dX4_open_76 : decode cX4_open 76 = .ok (.invokestatic 69, 3) := by decide +kernel
theorem dX4_open_79 : decode cX4_open 79 = .ok (.aload_n 0, 1) := by decide +kernel
theorem dX4_open_80 : decode cX4_open 80 = .ok (.getfield 25, 3) := by decide +kernel
theorem dX4_open_83 : decode cX4_open 83 = .ok (.iconst (-1), 1) := by decide +kernel
theorem dX4_open_84 : decode cX4_open 84 = .ok (.invokestatic 69, 3) := by decide +kernel
theorem dX4_open_87 : decode cX4_open 87 = .ok (.return_, 1) := by decide +kernel
theorem dX8_shelfAt_0 : decode cX8_shelfAt 0 = .ok (.iload_n 1, 1) := by decide +kernel
theorem dX8_shelfAt_1 : decode cX8_shelfAt 1 = .ok (.ifCond .lt 21, 3) := by decide +kernel
theorem dX8_shelfAt_4 : decode cX8_shelfAt 4 = .ok (.iload_n 1, 1) := by decide +kernel
theorem dX8_shelfAt_5 : decode cX8_shelfAt 5 = .ok (.aload_n 0, 1) := by decide +kernel
theorem dX8_shelfAt_6 : decode cX8_shelfAt 6 = .ok (.getfield 18, 3) := by decide +kernel
theorem dX8_shelfAt_9 : decode cX8_shelfAt 9 = .ok (.arraylength, 1) := by decide +kernel
theorem dX8_shelfAt_10 : decode cX8_shelfAt 10 = .ok (.if_icmp .ge 12, 3) := by decide +kernel
theorem dX8_shelfAt_13 : decode cX8_shelfAt 13 = .ok (.aload_n 0, 1) := by decide +kernel
theorem dX8_shelfAt_14 : decode cX8_shelfAt 14 = .ok (.getfield 18, 3) := by decide +kernel
theorem dX8_shelfAt_17 : decode cX8_shelfAt 17 = .ok (.iload_n 1, 1) := by decide +kernel
theorem dX8_shelfAt_18 : decode cX8_shelfAt 18 = .ok (.aaload, 1) := by decide +kernel
theorem dX8_shelfAt_19 : decode cX8_shelfAt 19 = .ok (.goto 4, 3) := by decide +kernel
theorem dX8_shelfAt_22 : decode cX8_shelfAt 22 = .ok (.aconst_null, 1) := by decide +kernel
theorem dX8_shelfAt_23 : decode cX8_shelfAt 23 = .ok (.areturn, 1) := by decide +kernel
theorem dX8_about_0 : decode cX8_about 0 = .ok (.iload_n 1, 1) := by decide +kernel
theorem dX8_about_1 : decode cX8_about 1 = .ok (.tableswitch 54 0 3 #[31, 36, 41, 46], 31) := by decide +kernel
theorem dX8_about_32 : decode cX8_about 32 = .ok (.aload_n 0, 1) := by decide +kernel
theorem dX8_about_33 : decode cX8_about 33 = .ok (.getfield 85, 3) := by decide +kernel
theorem dX8_about_36 : decode cX8_about 36 = .ok (.ireturn, 1) := by decide +kernel
theorem dX8_about_37 : decode cX8_about 37 = .ok (.aload_n 0, 1) := by decide +kernel
theorem dX8_about_38 : decode cX8_about 38 = .ok (.getfield 111, 3) := by decide +kernel
theorem dX8_about_41 : decode cX8_about 41 = .ok (.ireturn, 1) := by decide +kernel
theorem dX8_about_42 : decode cX8_about 42 = .ok (.aload_n 0, 1) := by decide +kernel
theorem dX8_about_43 : decode cX8_about 43 = .ok (.getfield 114, 3) := by decide +kernel
theorem dX8_about_46 : decode cX8_about 46 = .ok (.ireturn, 1) := by decide +kernel
theorem dX8_about_47 : decode cX8_about 47 = .ok (.aload_n 0, 1) := by decide +kernel
theorem dX8_about_48 : decode cX8_about 48 = .ok (.getfield 10, 3) := by decide +kernel
theorem dX8_about_51 : decode cX8_about 51 = .ok (.getfield 60, 3) := by decide +kernel
theorem dX8_about_54 : decode cX8_about 54 = .ok (.ireturn, 1) := by decide +kernel
theorem dX8_about_55 : decode cX8_about 55 = .ok (.iload_n 1, 1) := by decide +kernel
theorem dX8_about_56 : decode cX8_about 56 = .ok (.bipush 10, 2) := by decide +kernel
theorem dX8_about_58 : decode cX8_about 58 = .ok (.bipush 13, 2) := by decide +kernel
theorem dX8_about_60 : decode cX8_about 60 = .ok (.invokestatic 81, 3) := by decide +kernel
theorem dX8_about_63 : decode cX8_about 63 = .ok (.ifCond .eq 14, 3) := by decide +kernel
theorem dX8_about_66 : decode cX8_about 66 = .ok (.aload_n 0, 1) := by decide +kernel
theorem dX8_about_67 : decode cX8_about 67 = .ok (.iload_n 1, 1) := by decide +kernel
theorem dX8_about_68 : decode cX8_about 68 = .ok (.bipush 10, 2) := by decide +kernel
theorem dX8_about_70 : decode cX8_about 70 = .ok (.isub, 1) := by decide +kernel
theorem dX8_about_71 : decode cX8_about 71 = .ok (.invokevirtual 216, 3) := by decide +kernel
theorem dX8_about_74 : decode cX8_about 74 = .ok (.goto 4, 3) := by decide +kernel
theorem dX8_about_77 : decode cX8_about 77 = .ok (.aconst_null, 1) := by decide +kernel
theorem dX8_about_78 : decode cX8_about 78 = .ok (.astore_n 2, 1) := by decide +kernel
theorem dX8_about_79 : decode cX8_about 79 = .ok (.aload_n 2, 1) := by decide +kernel
theorem dX8_about_80 : decode cX8_about 80 = .ok (.ifnonnull 7, 3) := by decide +kernel
theorem dX8_about_83 : decode cX8_about 83 = .ok (.iconst (-1), 1) := by decide +kernel
theorem dX8_about_84 : decode cX8_about 84 = .ok (.goto 7, 3) := by decide +kernel
theorem dX8_about_87 : decode cX8_about 87 = .ok (.aload_n 2, 1) := by decide +kernel
theorem dX8_about_88 : decode cX8_about 88 = .ok (.getfield 75, 3) := by decide +kernel
theorem dX8_about_91 : decode cX8_about 91 = .ok (.ireturn, 1) := by decide +kernel
theorem dX8_factAt_0 : decode cX8_factAt 0 = .ok (.iload_n 1, 1) := by decide +kernel
theorem dX8_factAt_1 : decode cX8_factAt 1 = .ok (.ifCond .lt 29, 3) := by decide +kernel
theorem dX8_factAt_4 : decode cX8_factAt 4 = .ok (.iload_n 1, 1) := by decide +kernel
theorem dX8_factAt_5 : decode cX8_factAt 5 = .ok (.aload_n 0, 1) := by decide +kernel
theorem dX8_factAt_6 : decode cX8_factAt 6 = .ok (.getfield 111, 3) := by decide +kernel
theorem dX8_factAt_9 : decode cX8_factAt 9 = .ok (.if_icmp .ge 21, 3) := by decide +kernel
theorem dX8_factAt_12 : decode cX8_factAt 12 = .ok (.iload_n 1, 1) := by decide +kernel
theorem dX8_factAt_13 : decode cX8_factAt 13 = .ok (.aload_n 0, 1) := by decide +kernel
theorem dX8_factAt_14 : decode cX8_factAt 14 = .ok (.getfield 30, 3) := by decide +kernel
theorem dX8_factAt_17 : decode cX8_factAt 17 = .ok (.arraylength, 1) := by decide +kernel
theorem dX8_factAt_18 : decode cX8_factAt 18 = .ok (.if_icmp .ge 12, 3) := by decide +kernel
theorem dX8_factAt_21 : decode cX8_factAt 21 = .ok (.aload_n 0, 1) := by decide +kernel
theorem dX8_factAt_22 : decode cX8_factAt 22 = .ok (.getfield 30, 3) := by decide +kernel
theorem dX8_factAt_25 : decode cX8_factAt 25 = .ok (.iload_n 1, 1) := by decide +kernel
theorem dX8_factAt_26 : decode cX8_factAt 26 = .ok (.aaload, 1) := by decide +kernel
theorem dX8_factAt_27 : decode cX8_factAt 27 = .ok (.goto 4, 3) := by decide +kernel
theorem dX8_factAt_30 : decode cX8_factAt 30 = .ok (.aconst_null, 1) := by decide +kernel
theorem dX8_factAt_31 : decode cX8_factAt 31 = .ok (.areturn, 1) := by decide +kernel
theorem dX8_factOf_0 : decode cX8_factOf 0 = .ok (.aload_n 0, 1) := by decide +kernel
theorem dX8_factOf_1 : decode cX8_factOf 1 = .ok (.iload_n 2, 1) := by decide +kernel
theorem dX8_factOf_2 : decode cX8_factOf 2 = .ok (.invokevirtual 130, 3) := by decide +kernel
theorem dX8_factOf_5 : decode cX8_factOf 5 = .ok (.astore_n 3, 1) := by decide +kernel
theorem dX8_factOf_6 : decode cX8_factOf 6 = .ok (.aload_n 3, 1) := by decide +kernel
theorem dX8_factOf_7 : decode cX8_factOf 7 = .ok (.ifnull 15, 3) := by decide +kernel
theorem dX8_factOf_10 : decode cX8_factOf 10 = .ok (.aload_n 3, 1) := by decide +kernel
theorem dX8_factOf_11 : decode cX8_factOf 11 = .ok (.getfield 235, 3) := by decide +kernel
theorem dX8_factOf_14 : decode cX8_factOf 14 = .ok (.iload_n 1, 1) := by decide +kernel
theorem dX8_factOf_15 : decode cX8_factOf 15 = .ok (.if_icmp .ne 7, 3) := by decide +kernel
theorem dX8_factOf_18 : decode cX8_factOf 18 = .ok (.aload_n 3, 1) := by decide +kernel
theorem dX8_factOf_19 : decode cX8_factOf 19 = .ok (.goto 4, 3) := by decide +kernel
theorem dX8_factOf_22 : decode cX8_factOf 22 = .ok (.aconst_null, 1) := by decide +kernel
theorem dX8_factOf_23 : decode cX8_factOf 23 = .ok (.areturn, 1) := by decide +kernel
theorem dX8_workerAt_0 : decode cX8_workerAt 0 = .ok (.iload_n 1, 1) := by decide +kernel
theorem dX8_workerAt_1 : decode cX8_workerAt 1 = .ok (.ifCond .lt 29, 3) := by decide +kernel
theorem dX8_workerAt_4 : decode cX8_workerAt 4 = .ok (.iload_n 1, 1) := by decide +kernel
theorem dX8_workerAt_5 : decode cX8_workerAt 5 = .ok (.aload_n 0, 1) := by decide +kernel
theorem dX8_workerAt_6 : decode cX8_workerAt 6 = .ok (.getfield 85, 3) := by decide +kernel
theorem dX8_workerAt_9 : decode cX8_workerAt 9 = .ok (.if_icmp .ge 21, 3) := by decide +kernel
theorem dX8_workerAt_12 : decode cX8_workerAt 12 = .ok (.iload_n 1, 1) := by decide +kernel
theorem dX8_workerAt_13 : decode cX8_workerAt 13 = .ok (.aload_n 0, 1) := by decide +kernel
theorem dX8_workerAt_14 : decode cX8_workerAt 14 = .ok (.getfield 24, 3) := by decide +kernel
theorem dX8_workerAt_17 : decode cX8_workerAt 17 = .ok (.arraylength, 1) := by decide +kernel
theorem dX8_workerAt_18 : decode cX8_workerAt 18 = .ok (.if_icmp .ge 12, 3) := by decide +kernel
theorem dX8_workerAt_21 : decode cX8_workerAt 21 = .ok (.aload_n 0, 1) := by decide +kernel
theorem dX8_workerAt_22 : decode cX8_workerAt 22 = .ok (.getfield 24, 3) := by decide +kernel
theorem dX8_workerAt_25 : decode cX8_workerAt 25 = .ok (.iload_n 1, 1) := by decide +kernel
theorem dX8_workerAt_26 : decode cX8_workerAt 26 = .ok (.aaload, 1) := by decide +kernel
theorem dX8_workerAt_27 : decode cX8_workerAt 27 = .ok (.goto 4, 3) := by decide +kernel
theorem dX8_workerAt_30 : decode cX8_workerAt 30 = .ok (.aconst_null, 1) := by decide +kernel
theorem dX8_workerAt_31 : decode cX8_workerAt 31 = .ok (.areturn, 1) := by decide +kernel
theorem dX8_openSheet_0 : decode cX8_openSheet 0 = .ok (.aload_n 0, 1) := by decide +kernel
theorem dX8_openSheet_1 : decode cX8_openSheet 1 = .ok (.iload_n 1, 1) := by decide +kernel
theorem dX8_openSheet_2 : decode cX8_openSheet 2 = .ok (.invokevirtual 216, 3) := by decide +kernel
theorem dX8_openSheet_5 : decode cX8_openSheet 5 = .ok (.astore 5, 2) := by decide +kernel
theorem dX8_openSheet_7 : decode cX8_openSheet 7 = .ok (.aload_n 0, 1) := by decide +kernel
theorem dX8_openSheet_8 : decode cX8_openSheet 8 = .ok (.iload_n 2, 1) := by decide +kernel
theorem dX8_openSheet_9 : decode cX8_openSheet 9 = .ok (.invokevirtual 99, 3) := by decide +kernel
theorem dX8_openSheet_12 : decode cX8_openSheet 12 = .ok (.astore 6, 2) := by decide +kernel
theorem dX8_openSheet_14 : decode cX8_openSheet 14 = .ok (.aload 5, 2) := by decide +kernel
theorem dX8_openSheet_16 : decode cX8_openSheet 16 = .ok (.ifnull 8, 3) := by decide +kernel
theorem dX8_openSheet_19 : decode cX8_openSheet 19 = .ok (.aload 6, 2) := by decide +kernel
theorem dX8_openSheet_21 : decode cX8_openSheet 21 = .ok (.ifnonnull 5, 3) := by decide +kernel
theorem dX8_openSheet_24 : decode cX8_openSheet 24 = .ok (.iconst 0, 1) := by decide +kernel
theorem dX8_openSheet_25 : decode cX8_openSheet 25 = .ok (.ireturn, 1) := by decide +kernel
theorem dX8_openSheet_26 : decode cX8_openSheet 26 = .ok (.aload 6, 2) := by decide +kernel
theorem dX8_openSheet_28 : decode cX8_openSheet 28 = .ok (.iload 4, 2) := by decide +kernel
theorem dX8_openSheet_30 : decode cX8_openSheet 30 = .ok (.aload_n 0, 1) := by decide +kernel
theorem dX8_openSheet_31 : decode cX8_openSheet 31 = .ok (.getfield 37, 3) := by decide +kernel
theorem dX8_openSheet_34 : decode cX8_openSheet 34 = .ok (.invokevirtual 142, 3) := by decide +kernel
theorem dX8_openSheet_37 : decode cX8_openSheet 37 = .ok (.aload_n 0, 1) := by decide +kernel
theorem dX8_openSheet_38 : decode cX8_openSheet 38 = .ok (.getfield 44, 3) := by decide +kernel
theorem dX8_openSheet_41 : decode cX8_openSheet 41 = .ok (.aload 5, 2) := by decide +kernel
theorem dX8_openSheet_43 : decode cX8_openSheet 43 = .ok (.aload 6, 2) := by decide +kernel
theorem dX8_openSheet_45 : decode cX8_openSheet 45 = .ok (.iload_n 3, 1) := by decide +kernel
theorem dX8_openSheet_46 : decode cX8_openSheet 46 = .ok (.invokevirtual 238, 3) := by decide +kernel
theorem dX8_openSheet_49 : decode cX8_openSheet 49 = .ok (.iconst 1, 1) := by decide +kernel
theorem dX8_openSheet_50 : decode cX8_openSheet 50 = .ok (.ireturn, 1) := by decide +kernel
theorem dX8_average_0 : decode cX8_average 0 = .ok (.aload_n 0, 1) := by decide +kernel
theorem dX8_average_1 : decode cX8_average 1 = .ok (.iconst 3, 1) := by decide +kernel
theorem dX8_average_2 : decode cX8_average 2 = .ok (.iload_n 2, 1) := by decide +kernel
theorem dX8_average_3 : decode cX8_average 3 = .ok (.invokevirtual 170, 3) := by decide +kernel
theorem dX8_average_6 : decode cX8_average 6 = .ok (.astore 5, 2) := by decide +kernel
theorem dX8_average_8 : decode cX8_average 8 = .ok (.aload 5, 2) := by decide +kernel
theorem dX8_average_10 : decode cX8_average 10 = .ok (.ifnull 19, 3) := by decide +kernel
theorem dX8_average_13 : decode cX8_average 13 = .ok (.aload_n 0, 1) := by decide +kernel
theorem dX8_average_14 : decode cX8_average 14 = .ok (.iload_n 1, 1) := by decide +kernel
theorem dX8_average_15 : decode cX8_average 15 = .ok (.aload 5, 2) := by decide +kernel
theorem dX8_average_17 : decode cX8_average 17 = .ok (.getfield 120, 3) := by decide +kernel
theorem dX8_average_20 : decode cX8_average 20 = .ok (.iload_n 3, 1) := by decide +kernel
theorem dX8_average_21 : decode cX8_average 21 = .ok (.iload 4, 2) := by decide +kernel
theorem dX8_average_23 : decode cX8_average 23 = .ok (.invokevirtual 159, 3) := by decide +kernel
theorem dX8_average_26 : decode cX8_average 26 = .ok (.ifCond .ne 5, 3) := by decide +kernel
theorem dX8_average_29 : decode cX8_average 29 = .ok (.iconst (-1), 1) := by decide +kernel
theorem dX8_average_30 : decode cX8_average 30 = .ok (.ireturn, 1) := by decide +kernel
theorem dX8_average_31 : decode cX8_average 31 = .ok (.aload_n 0, 1) := by decide +kernel
theorem dX8_average_32 : decode cX8_average 32 = .ok (.getfield 44, 3) := by decide +kernel
theorem dX8_average_35 : decode cX8_average 35 = .ok (.aload 5, 2) := by decide +kernel
theorem dX8_average_37 : decode cX8_average 37 = .ok (.getfield 174, 3) := by decide +kernel
theorem dX8_average_40 : decode cX8_average 40 = .ok (.invokevirtual 177, 3) := by decide +kernel
theorem dX8_average_43 : decode cX8_average 43 = .ok (.ireturn, 1) := by decide +kernel
theorem dX8_tell_0 : decode cX8_tell 0 = .ok (.aload_n 0, 1) := by decide +kernel
theorem dX8_tell_1 : decode cX8_tell 1 = .ok (.iload_n 2, 1) := by decide +kernel
theorem dX8_tell_2 : decode cX8_tell 2 = .ok (.invokevirtual 99, 3) := by decide +kernel
theorem dX8_tell_5 : decode cX8_tell 5 = .ok (.astore 6, 2) := by decide +kernel
theorem dX8_tell_7 : decode cX8_tell 7 = .ok (.aload 6, 2) := by decide +kernel
theorem dX8_tell_9 : decode cX8_tell 9 = .ok (.ifnull 22, 3) := by decide +kernel
theorem dX8_tell_12 : decode cX8_tell 12 = .ok (.aload_n 0, 1) := by decide +kernel
theorem dX8_tell_13 : decode cX8_tell 13 = .ok (.getfield 111, 3) := by decide +kernel
theorem dX8_tell_16 : decode cX8_tell 16 = .ok (.ifCond .lt 15, 3) := by decide +kernel
theorem dX8_tell_19 : decode cX8_tell 19 = .ok (.aload_n 0, 1) := by decide +kernel
theorem dX8_tell_20 : decode cX8_tell 20 = .ok (.getfield 111, 3) := by decide +kernel
theorem dX8_tell_23 : decode cX8_tell 23 = .ok (.aload_n 0, 1) := by decide +kernel
theorem dX8_tell_24 : decode cX8_tell 24 = .ok (.getfield 30, 3) := by decide +kernel
theorem dX8_tell_27 : decode cX8_tell 27 = .ok (.arraylength, 1) := by decide +kernel
theorem dX8_tell_28 : decode cX8_tell 28 = .ok (.if_icmp .lt 5, 3) := by decide +kernel
theorem dX8_tell_31 : decode cX8_tell 31 = .ok (.iconst (-1), 1) := by decide +kernel
theorem dX8_tell_32 : decode cX8_tell 32 = .ok (.ireturn, 1) := by decide +kernel
theorem dX8_tell_33 : decode cX8_tell 33 = .ok (.new 28, 3) := by decide +kernel
theorem dX8_tell_36 : decode cX8_tell 36 = .ok (.dup, 1) := by decide +kernel
theorem dX8_tell_37 : decode cX8_tell 37 = .ok (.aload_n 0, 1) := by decide +kernel
theorem dX8_tell_38 : decode cX8_tell 38 = .ok (.getfield 111, 3) := by decide +kernel
theorem dX8_tell_41 : decode cX8_tell 41 = .ok (.iload_n 1, 1) := by decide +kernel
theorem dX8_tell_42 : decode cX8_tell 42 = .ok (.iload_n 3, 1) := by decide +kernel
theorem dX8_tell_43 : decode cX8_tell 43 = .ok (.iload 4, 2) := by decide +kernel
theorem dX8_tell_45 : decode cX8_tell 45 = .ok (.iload 5, 2) := by decide +kernel
theorem dX8_tell_47 : decode cX8_tell 47 = .ok (.aload_n 0, 1) := by decide +kernel
theorem dX8_tell_48 : decode cX8_tell 48 = .ok (.getfield 114, 3) := by decide +kernel
theorem dX8_tell_51 : decode cX8_tell 51 = .ok (.invokespecial 117, 3) := by decide +kernel
theorem dX8_tell_54 : decode cX8_tell 54 = .ok (.astore 7, 2) := by decide +kernel
theorem dX8_tell_56 : decode cX8_tell 56 = .ok (.aload 7, 2) := by decide +kernel
theorem dX8_tell_58 : decode cX8_tell 58 = .ok (.iload_n 2, 1) := by decide +kernel
theorem dX8_tell_59 : decode cX8_tell 59 = .ok (.putfield 120, 3) := by decide +kernel
theorem dX8_tell_62 : decode cX8_tell 62 = .ok (.aload_n 0, 1) := by decide +kernel
theorem dX8_tell_63 : decode cX8_tell 63 = .ok (.getfield 30, 3) := by decide +kernel
theorem dX8_tell_66 : decode cX8_tell 66 = .ok (.aload_n 0, 1) := by decide +kernel
theorem dX8_tell_67 : decode cX8_tell 67 = .ok (.getfield 111, 3) := by decide +kernel
theorem dX8_tell_70 : decode cX8_tell 70 = .ok (.aload 7, 2) := by decide +kernel
theorem dX8_tell_72 : decode cX8_tell 72 = .ok (.aastore, 1) := by decide +kernel
theorem dX8_tell_73 : decode cX8_tell 73 = .ok (.aload_n 0, 1) := by decide +kernel
theorem dX8_tell_74 : decode cX8_tell 74 = .ok (.dup, 1) := by decide +kernel
theorem dX8_tell_75 : decode cX8_tell 75 = .ok (.getfield 111, 3) := by decide +kernel
theorem dX8_tell_78 : decode cX8_tell 78 = .ok (.iconst 1, 1) := by decide +kernel
theorem dX8_tell_79 : decode cX8_tell 79 = .ok (.iadd, 1) := by decide +kernel
theorem dX8_tell_80 : decode cX8_tell 80 = .ok (.putfield 111, 3) := by decide +kernel
theorem dX8_tell_83 : decode cX8_tell 83 = .ok (.aload 6, 2) := by decide +kernel
theorem dX8_tell_85 : decode cX8_tell 85 = .ok (.aload 7, 2) := by decide +kernel
theorem dX8_tell_87 : decode cX8_tell 87 = .ok (.invokevirtual 123, 3) := by decide +kernel
theorem dX8_tell_90 : decode cX8_tell 90 = .ok (.aload 7, 2) := by decide +kernel
theorem dX8_tell_92 : decode cX8_tell 92 = .ok (.getfield 127, 3) := by decide +kernel
theorem dX8_tell_95 : decode cX8_tell 95 = .ok (.ireturn, 1) := by decide +kernel
theorem dX8_bank_0 : decode cX8_bank 0 = .ok (.aload_n 0, 1) := by decide +kernel
theorem dX8_bank_1 : decode cX8_bank 1 = .ok (.iload_n 1, 1) := by decide +kernel
theorem dX8_bank_2 : decode cX8_bank 2 = .ok (.invokevirtual 99, 3) := by decide +kernel
theorem dX8_bank_5 : decode cX8_bank 5 = .ok (.astore 5, 2) := by decide +kernel
theorem dX8_bank_7 : decode cX8_bank 7 = .ok (.iload_n 2, 1) := by decide +kernel
theorem dX8_bank_8 : decode cX8_bank 8 = .ok (.invokestatic 91, 3) := by decide +kernel
theorem dX8_bank_11 : decode cX8_bank 11 = .ok (.ifCond .eq 30, 3) := by decide +kernel
theorem dX8_bank_14 : decode cX8_bank 14 = .ok (.iload_n 3, 1) := by decide +kernel
theorem dX8_bank_15 : decode cX8_bank 15 = .ok (.invokestatic 91, 3) := by decide +kernel
theorem dX8_bank_18 : decode cX8_bank 18 = .ok (.ifCond .eq 23, 3) := by decide +kernel
theorem dX8_bank_21 : decode cX8_bank 21 = .ok (.iload_n 2, 1) := by decide +kernel
theorem dX8_bank_22 : decode cX8_bank 22 = .ok (.iload_n 3, 1) := by decide +kernel
theorem dX8_bank_23 : decode cX8_bank 23 = .ok (.if_icmp .gt 18, 3) := by decide +kernel
theorem dX8_bank_26 : decode cX8_bank 26 = .ok (.iload 4, 2) := by decide +kernel
theorem dX8_bank_28 : decode cX8_bank 28 = .ok (.iconst 0, 1) := by decide +kernel
theorem dX8_bank_29 : decode cX8_bank 29 = .ok (.ldc 103, 2) := by decide +kernel
theorem dX8_bank_31 : decode cX8_bank 31 = .ok (.invokestatic 81, 3) := by decide +kernel
theorem dX8_bank_34 : decode cX8_bank 34 = .ok (.ifCond .eq 7, 3) := by decide +kernel
theorem dX8_bank_37 : decode cX8_bank 37 = .ok (.iconst 1, 1) := by decide +kernel
theorem dX8_bank_38 : decode cX8_bank 38 = .ok (.goto 4, 3) := by decide +kernel
theorem dX8_bank_41 : decode cX8_bank 41 = .ok (.iconst 0, 1) := by decide +kernel
theorem dX8_bank_42 : decode cX8_bank 42 = .ok (.istore 6, 2) := by decide +kernel
theorem dX8_bank_44 : decode cX8_bank 44 = .ok (.iload 6, 2) := by decide +kernel
theorem dX8_bank_46 : decode cX8_bank 46 = .ok (.ifCond .eq 18, 3) := by decide +kernel
theorem dX8_bank_49 : decode cX8_bank 49 = .ok (.aload 5, 2) := by decide +kernel
theorem dX8_bank_51 : decode cX8_bank 51 = .ok (.ifnull 13, 3) := by decide +kernel
theorem dX8_bank_54 : decode cX8_bank 54 = .ok (.aload 5, 2) := by decide +kernel
theorem dX8_bank_56 : decode cX8_bank 56 = .ok (.getfield 104, 3) := by decide +kernel
theorem dX8_bank_59 : decode cX8_bank 59 = .ok (.bipush 10, 2) := by decide +kernel
theorem dX8_bank_61 : decode cX8_bank 61 = .ok (.if_icmp .lt 5, 3) := by decide +kernel
theorem dX8_bank_64 : decode cX8_bank 64 = .ok (.iconst (-1), 1) := by decide +kernel
theorem dX8_bank_65 : decode cX8_bank 65 = .ok (.ireturn, 1) := by decide +kernel
theorem dX8_bank_66 : decode cX8_bank 66 = .ok (.aload_n 0, 1) := by decide +kernel
theorem dX8_bank_67 : decode cX8_bank 67 = .ok (.iconst 2, 1) := by decide +kernel
theorem dX8_bank_68 : decode cX8_bank 68 = .ok (.iload_n 1, 1) := by decide +kernel
theorem dX8_bank_69 : decode cX8_bank 69 = .ok (.iload_n 2, 1) := by decide +kernel
theorem dX8_bank_70 : decode cX8_bank 70 = .ok (.iload_n 3, 1) := by decide +kernel
theorem dX8_bank_71 : decode cX8_bank 71 = .ok (.iload 4, 2) := by decide +kernel
theorem dX8_bank_73 : decode cX8_bank 73 = .ok (.invokevirtual 95, 3) := by decide +kernel
theorem dX8_bank_76 : decode cX8_bank 76 = .ok (.istore 7, 2) := by decide +kernel
theorem dX8_bank_78 : decode cX8_bank 78 = .ok (.iload 7, 2) := by decide +kernel
theorem dX8_bank_80 : decode cX8_bank 80 = .ok (.iconst (-1), 1) := by decide +kernel
theorem dX8_bank_81 : decode cX8_bank 81 = .ok (.if_icmp .eq 14, 3) := by decide +kernel
theorem dX8_bank_84 : decode cX8_bank 84 = .ok (.aload 5, 2) := by decide +kernel
theorem dX8_bank_86 : decode cX8_bank 86 = .ok (.dup, 1) := by decide +kernel
theorem dX8_bank_87 : decode cX8_bank 87 = .ok (.getfield 104, 3) := by decide +kernel
theorem dX8_bank_90 : decode cX8_bank 90 = .ok (.iconst 1, 1) := by decide +kernel
theorem dX8_bank_91 : decode cX8_bank 91 = .ok (.iadd, 1) := by decide +kernel
theorem dX8_bank_92 : decode cX8_bank 92 = .ok (.putfield 104, 3) := by decide +kernel
theorem dX8_bank_95 : decode cX8_bank 95 = .ok (.iload 7, 2) := by decide +kernel
theorem dX8_bank_97 : decode cX8_bank 97 = .ok (.ireturn, 1) := by decide +kernel
theorem dX8_weighMarkSets_0 : decode cX8_weighMarkSets 0 = .ok (.iconst 0, 1) := by decide +kernel
theorem dX8_weighMarkSets_1 : decode cX8_weighMarkSets 1 = .ok (.istore_n 1, 1) := by decide +kernel
theorem dX8_weighMarkSets_2 : decode cX8_weighMarkSets 2 = .ok (.iload_n 1, 1) := by decide +kernel
theorem dX8_weighMarkSets_3 : decode cX8_weighMarkSets 3 = .ok (.aload_n 0, 1) := by decide +kernel
theorem dX8_weighMarkSets_4 : decode cX8_weighMarkSets 4 = .ok (.getfield 56, 3) := by decide +kernel
theorem dX8_weighMarkSets_7 : decode cX8_weighMarkSets 7 = .ok (.arraylength, 1) := by decide +kernel
theorem dX8_weighMarkSets_8 : decode cX8_weighMarkSets 8 = .ok (.if_icmp .ge 71, 3) := by decide +kernel
theorem dX8_weighMarkSets_11 : decode cX8_weighMarkSets 11 = .ok (.lconst 0, 1) := by decide +kernel
theorem dX8_weighMarkSets_12 : decode cX8_weighMarkSets 12 = .ok (.lstore_n 2, 1) := by decide +kernel
theorem dX8_weighMarkSets_13 : decode cX8_weighMarkSets 13 = .ok (.iconst 0, 1) := by decide +kernel
theorem dX8_weighMarkSets_14 : decode cX8_weighMarkSets 14 = .ok (.istore 4, 2) := by decide +kernel
theorem dX8_weighMarkSets_16 : decode cX8_weighMarkSets 16 = .ok (.iload 4, 2) := by decide +kernel
theorem dX8_weighMarkSets_18 : decode cX8_weighMarkSets 18 = .ok (.aload_n 0, 1) := by decide +kernel
theorem dX8_weighMarkSets_19 : decode cX8_weighMarkSets 19 = .ok (.getfield 48, 3) := by decide +kernel
theorem dX8_weighMarkSets_22 : decode cX8_weighMarkSets 22 = .ok (.arraylength, 1) := by decide +kernel
theorem dX8_weighMarkSets_23 : decode cX8_weighMarkSets 23 = .ok (.if_icmp .ge 43, 3) := by decide +kernel
theorem dX8_weighMarkSets_26 : decode cX8_weighMarkSets 26 = .ok (.iload 4, 2) := by decide +kernel
theorem dX8_weighMarkSets_28 : decode cX8_weighMarkSets 28 = .ok (.aload_n 0, 1) := by decide +kernel
theorem dX8_weighMarkSets_29 : decode cX8_weighMarkSets 29 = .ok (.getfield 52, 3) := by decide +kernel
theorem dX8_weighMarkSets_32 : decode cX8_weighMarkSets 32 = .ok (.arraylength, 1) := by decide +kernel
theorem dX8_weighMarkSets_33 : decode cX8_weighMarkSets 33 = .ok (.if_icmp .ge 33, 3) := by decide +kernel
theorem dX8_weighMarkSets_36 : decode cX8_weighMarkSets 36 = .ok (.aload_n 0, 1) := by decide +kernel
theorem dX8_weighMarkSets_37 : decode cX8_weighMarkSets 37 = .ok (.getfield 52, 3) := by decide +kernel
theorem dX8_weighMarkSets_40 : decode cX8_weighMarkSets 40 = .ok (.iload 4, 2) := by decide +kernel
theorem dX8_weighMarkSets_42 : decode cX8_weighMarkSets 42 = .ok (.iaload, 1) := by decide +kernel
theorem dX8_weighMarkSets_43 : decode cX8_weighMarkSets 43 = .ok (.iload_n 1, 1) := by decide +kernel
theorem dX8_weighMarkSets_44 : decode cX8_weighMarkSets 44 = .ok (.iconst (-1), 1) := by decide +kernel
theorem dX8_weighMarkSets_45 : decode cX8_weighMarkSets 45 = .ok (.ixor, 1) := by decide +kernel
theorem dX8_weighMarkSets_46 : decode cX8_weighMarkSets 46 = .ok (.iand, 1) := by decide +kernel
theorem dX8_weighMarkSets_47 : decode cX8_weighMarkSets 47 = .ok (.ifCond .ne 13, 3) := by decide +kernel
theorem dX8_weighMarkSets_50 : decode cX8_weighMarkSets 50 = .ok (.lload_n 2, 1) := by decide +kernel
theorem dX8_weighMarkSets_51 : decode cX8_weighMarkSets 51 = .ok (.aload_n 0, 1) := by decide +kernel
theorem dX8_weighMarkSets_52 : decode cX8_weighMarkSets 52 = .ok (.getfield 48, 3) := by decide +kernel
theorem dX8_weighMarkSets_55 : decode cX8_weighMarkSets 55 = .ok (.iload 4, 2) := by decide +kernel
theorem dX8_weighMarkSets_57 : decode cX8_weighMarkSets 57 = .ok (.laload, 1) := by decide +kernel
theorem dX8_weighMarkSets_58 : decode cX8_weighMarkSets 58 = .ok (.ladd, 1) := by decide +kernel
theorem dX8_weighMarkSets_59 : decode cX8_weighMarkSets 59 = .ok (.lstore_n 2, 1) := by decide +kernel
theorem dX8_weighMarkSets_60 : decode cX8_weighMarkSets 60 = .ok (.iinc 4 1, 3) := by decide +kernel
theorem dX8_weighMarkSets_63 : decode cX8_weighMarkSets 63 = .ok (.goto (-47), 3) := by decide +kernel
theorem dX8_weighMarkSets_66 : decode cX8_weighMarkSets 66 = .ok (.aload_n 0, 1) := by decide +kernel
theorem dX8_weighMarkSets_67 : decode cX8_weighMarkSets 67 = .ok (.getfield 56, 3) := by decide +kernel
theorem dX8_weighMarkSets_70 : decode cX8_weighMarkSets 70 = .ok (.iload_n 1, 1) := by decide +kernel
theorem dX8_weighMarkSets_71 : decode cX8_weighMarkSets 71 = .ok (.lload_n 2, 1) := by decide +kernel
theorem dX8_weighMarkSets_72 : decode cX8_weighMarkSets 72 = .ok (.lastore, 1) := by decide +kernel
theorem dX8_weighMarkSets_73 : decode cX8_weighMarkSets 73 = .ok (.iinc 1 1, 3) := by decide +kernel
theorem dX8_weighMarkSets_76 : decode cX8_weighMarkSets 76 = .ok (.goto (-74), 3) := by decide +kernel
theorem dX8_weighMarkSets_79 : decode cX8_weighMarkSets 79 = .ok (.return_, 1) := by decide +kernel
theorem dX8_marksOfSet_0 : decode cX8_marksOfSet 0 = .ok (.iconst 0, 1) := by decide +kernel
theorem dX8_marksOfSet_1 : decode cX8_marksOfSet 1 = .ok (.istore_n 2, 1) := by decide +kernel
theorem dX8_marksOfSet_2 : decode cX8_marksOfSet 2 = .ok (.iconst 0, 1) := by decide +kernel
theorem dX8_marksOfSet_3 : decode cX8_marksOfSet 3 = .ok (.istore_n 3, 1) := by decide +kernel
theorem dX8_marksOfSet_4 : decode cX8_marksOfSet 4 = .ok (.iload_n 3, 1) := by decide +kernel
theorem dX8_marksOfSet_5 : decode cX8_marksOfSet 5 = .ok (.aload_n 0, 1) := by decide +kernel
theorem dX8_marksOfSet_6 : decode cX8_marksOfSet 6 = .ok (.getfield 48, 3) := by decide +kernel
theorem dX8_marksOfSet_9 : decode cX8_marksOfSet 9 = .ok (.arraylength, 1) := by decide +kernel
theorem dX8_marksOfSet_10 : decode cX8_marksOfSet 10 = .ok (.if_icmp .ge 48, 3) := by decide +kernel
theorem dX8_marksOfSet_13 : decode cX8_marksOfSet 13 = .ok (.iload_n 3, 1) := by decide +kernel
theorem dX8_marksOfSet_14 : decode cX8_marksOfSet 14 = .ok (.aload_n 0, 1) := by decide +kernel
theorem dX8_marksOfSet_15 : decode cX8_marksOfSet 15 = .ok (.getfield 52, 3) := by decide +kernel
theorem dX8_marksOfSet_18 : decode cX8_marksOfSet 18 = .ok (.arraylength, 1) := by decide +kernel
theorem dX8_marksOfSet_19 : decode cX8_marksOfSet 19 = .ok (.if_icmp .ge 39, 3) := by decide +kernel
theorem dX8_marksOfSet_22 : decode cX8_marksOfSet 22 = .ok (.iload_n 1, 1) := by decide +kernel
theorem dX8_marksOfSet_23 : decode cX8_marksOfSet 23 = .ok (.iload_n 3, 1) := by decide +kernel
theorem dX8_marksOfSet_24 : decode cX8_marksOfSet 24 = .ok (.ishr, 1) := by decide +kernel
theorem dX8_marksOfSet_25 : decode cX8_marksOfSet 25 = .ok (.iconst 1, 1) := by decide +kernel
theorem dX8_marksOfSet_26 : decode cX8_marksOfSet 26 = .ok (.iand, 1) := by decide +kernel
theorem dX8_marksOfSet_27 : decode cX8_marksOfSet 27 = .ok (.ifCond .eq 25, 3) := by decide +kernel
theorem dX8_marksOfSet_30 : decode cX8_marksOfSet 30 = .ok (.aload_n 0, 1) := by decide +kernel
theorem dX8_marksOfSet_31 : decode cX8_marksOfSet 31 = .ok (.getfield 48, 3) := by decide +kernel
theorem dX8_marksOfSet_34 : decode cX8_marksOfSet 34 = .ok (.iload_n 3, 1) := by decide +kernel
theorem dX8_marksOfSet_35 : decode cX8_marksOfSet 35 = .ok (.laload, 1) := by decide +kernel
theorem dX8_marksOfSet_36 : decode cX8_marksOfSet 36 = .ok (.lconst 0, 1) := by decide +kernel
theorem dX8_marksOfSet_37 : decode cX8_marksOfSet 37 = .ok (.lcmp, 1) := by decide +kernel
theorem dX8_marksOfSet_38 : decode cX8_marksOfSet 38 = .ok (.ifCond .gt 5, 3) := by decide +kernel
theorem dX8_marksOfSet_41 : decode cX8_marksOfSet 41 = .ok (.iconst (-1), 1) := by decide +kernel
theorem dX8_marksOfSet_42 : decode cX8_marksOfSet 42 = .ok (.ireturn, 1) := by decide +kernel
theorem dX8_marksOfSet_43 : decode cX8_marksOfSet 43 = .ok (.iload_n 2, 1) := by decide +kernel
theorem dX8_marksOfSet_44 : decode cX8_marksOfSet 44 = .ok (.aload_n 0, 1) := by decide +kernel
theorem dX8_marksOfSet_45 : decode cX8_marksOfSet 45 = .ok (.getfield 52, 3) := by decide +kernel
theorem dX8_marksOfSet_48 : decode cX8_marksOfSet 48 = .ok (.iload_n 3, 1) := by decide +kernel
theorem dX8_marksOfSet_49 : decode cX8_marksOfSet 49 = .ok (.iaload, 1) := by decide +kernel
theorem dX8_marksOfSet_50 : decode cX8_marksOfSet 50 = .ok (.ior, 1) := by decide +kernel
theorem dX8_marksOfSet_51 : decode cX8_marksOfSet 51 = .ok (.istore_n 2, 1) := by decide +kernel
theorem dX8_marksOfSet_52 : decode cX8_marksOfSet 52 = .ok (.iinc 3 1, 3) := by decide +kernel
theorem dX8_marksOfSet_55 : decode cX8_marksOfSet 55 = .ok (.goto (-51), 3) := by decide +kernel
theorem dX8_marksOfSet_58 : decode cX8_marksOfSet 58 = .ok (.iload_n 2, 1) := by decide +kernel
theorem dX8_marksOfSet_59 : decode cX8_marksOfSet 59 = .ok (.ireturn, 1) := by decide +kernel
theorem dX8_bestTests_0 : decode cX8_bestTests 0 = .ok (.aload_n 0, 1) := by decide +kernel
theorem dX8_bestTests_1 : decode cX8_bestTests 1 = .ok (.invokevirtual 245, 3) := by decide +kernel
theorem dX8_bestTests_4 : decode cX8_bestTests 4 = .ok (.iconst 0, 1) := by decide +kernel
theorem dX8_bestTests_5 : decode cX8_bestTests 5 = .ok (.istore_n 2, 1) := by decide +kernel
theorem dX8_bestTests_6 : decode cX8_bestTests 6 = .ok (.aload_n 0, 1) := by decide +kernel
theorem dX8_bestTests_7 : decode cX8_bestTests 7 = .ok (.aload_n 0, 1) := by decide +kernel
theorem dX8_bestTests_8 : decode cX8_bestTests 8 = .ok (.getfield 56, 3) := by decide +kernel
theorem dX8_bestTests_11 : decode cX8_bestTests 11 = .ok (.iconst 0, 1) := by decide +kernel
theorem dX8_bestTests_12 : decode cX8_bestTests 12 = .ok (.laload, 1) := by decide +kernel
theorem dX8_bestTests_13 : decode cX8_bestTests 13 = .ok (.putfield 232, 3) := by decide +kernel
theorem dX8_bestTests_16 : decode cX8_bestTests 16 = .ok (.iconst 1, 1) := by decide +kernel
theorem dX8_bestTests_17 : decode cX8_bestTests 17 = .ok (.istore_n 3, 1) := by decide +kernel
theorem dX8_bestTests_18 : decode cX8_bestTests 18 = .ok (.iload_n 3, 1) := by decide +kernel
theorem dX8_bestTests_19 : decode cX8_bestTests 19 = .ok (.iconst 1, 1) := by decide +kernel
theorem dX8_bestTests_20 : decode cX8_bestTests 20 = .ok (.aload_n 0, 1) := by decide +kernel
theorem dX8_bestTests_21 : decode cX8_bestTests 21 = .ok (.getfield 85, 3) := by decide +kernel
theorem dX8_bestTests_24 : decode cX8_bestTests 24 = .ok (.ishl, 1) := by decide +kernel
theorem dX8_bestTests_25 : decode cX8_bestTests 25 = .ok (.if_icmp .ge 105, 3) := by decide +kernel
theorem dX8_bestTests_28 : decode cX8_bestTests 28 = .ok (.iload_n 3, 1) := by decide +kernel
theorem dX8_bestTests_29 : decode cX8_bestTests 29 = .ok (.invokestatic 248, 3) := by decide +kernel
theorem dX8_bestTests_32 : decode cX8_bestTests 32 = .ok (.istore 4, 2) := by decide +kernel
theorem dX8_bestTests_34 : decode cX8_bestTests 34 = .ok (.iload 4, 2) := by decide +kernel
theorem dX8_bestTests_36 : decode cX8_bestTests 36 = .ok (.iload_n 1, 1) := by decide +kernel
theorem dX8_bestTests_37 : decode cX8_bestTests 37 = .ok (.if_icmp .gt 11, 3) := by decide +kernel
theorem dX8_bestTests_40 : decode cX8_bestTests 40 = .ok (.aload_n 0, 1) := by decide +kernel
theorem dX8_bestTests_41 : decode cX8_bestTests 41 = .ok (.iload_n 3, 1) := by decide +kernel
theorem dX8_bestTests_42 : decode cX8_bestTests 42 = .ok (.invokevirtual 253, 3) := by decide +kernel
theorem dX8_bestTests_45 : decode cX8_bestTests 45 = .ok (.goto 4, 3) := by decide +kernel
theorem dX8_bestTests_48 : decode cX8_bestTests 48 = .ok (.iconst (-1), 1) := by decide +kernel
theorem dX8_bestTests_49 : decode cX8_bestTests 49 = .ok (.istore 5, 2) := by decide +kernel
theorem dX8_bestTests_51 : decode cX8_bestTests 51 = .ok (.iload 5, 2) := by decide +kernel
theorem dX8_bestTests_53 : decode cX8_bestTests 53 = .ok (.ifCond .lt 71, 3) := by decide +kernel
theorem dX8_bestTests_56 : decode cX8_bestTests 56 = .ok (.iload 5, 2) := by decide +kernel
theorem dX8_bestTests_58 : decode cX8_bestTests 58 = .ok (.aload_n 0, 1) := by decide +kernel
theorem dX8_bestTests_59 : decode cX8_bestTests 59 = .ok (.getfield 56, 3) := by decide +kernel
theorem dX8_bestTests_62 : decode cX8_bestTests 62 = .ok (.arraylength, 1) := by decide +kernel
theorem dX8_bestTests_63 : decode cX8_bestTests 63 = .ok (.if_icmp .ge 61, 3) := by decide +kernel
theorem dX8_bestTests_66 : decode cX8_bestTests 66 = .ok (.aload_n 0, 1) := by decide +kernel
theorem dX8_bestTests_67 : decode cX8_bestTests 67 = .ok (.getfield 56, 3) := by decide +kernel
theorem dX8_bestTests_70 : decode cX8_bestTests 70 = .ok (.iload 5, 2) := by decide +kernel
theorem dX8_bestTests_72 : decode cX8_bestTests 72 = .ok (.laload, 1) := by decide +kernel
theorem dX8_bestTests_73 : decode cX8_bestTests 73 = .ok (.lstore 6, 2) := by decide +kernel
theorem dX8_bestTests_75 : decode cX8_bestTests 75 = .ok (.lload 6, 2) := by decide +kernel
theorem dX8_bestTests_77 : decode cX8_bestTests 77 = .ok (.aload_n 0, 1) := by decide +kernel
theorem dX8_bestTests_78 : decode cX8_bestTests 78 = .ok (.getfield 232, 3) := by decide +kernel
theorem dX8_bestTests_81 : decode cX8_bestTests 81 = .ok (.lcmp, 1) := by decide +kernel
theorem dX8_bestTests_82 : decode cX8_bestTests 82 = .ok (.ifCond .gt 22, 3) := by decide +kernel
theorem dX8_bestTests_85 : decode cX8_bestTests 85 = .ok (.lload 6, 2) := by decide +kernel
theorem dX8_bestTests_87 : decode cX8_bestTests 87 = .ok (.aload_n 0, 1) := by decide +kernel
theorem dX8_bestTests_88 : decode cX8_bestTests 88 = .ok (.getfield 232, 3) := by decide +kernel
theorem dX8_bestTests_91 : decode cX8_bestTests 91 = .ok (.lcmp, 1) := by decide +kernel
theorem dX8_bestTests_92 : decode cX8_bestTests 92 = .ok (.ifCond .ne 16, 3) := by decide +kernel
theorem dX8_bestTests_95 : decode cX8_bestTests 95 = .ok (.iload 4, 2) := by decide +kernel
theorem dX8_bestTests_97 : decode cX8_bestTests 97 = .ok (.iload_n 2, 1) := by decide +kernel
theorem dX8_bestTests_98 : decode cX8_bestTests 98 = .ok (.invokestatic 248, 3) := by decide +kernel
theorem dX8_bestTests_101 : decode cX8_bestTests 101 = .ok (.if_icmp .ge 7, 3) := by decide +kernel
theorem dX8_bestTests_104 : decode cX8_bestTests 104 = .ok (.iconst 1, 1) := by decide +kernel
theorem dX8_bestTests_105 : decode cX8_bestTests 105 = .ok (.goto 4, 3) := by decide +kernel
theorem dX8_bestTests_108 : decode cX8_bestTests 108 = .ok (.iconst 0, 1) := by decide +kernel
theorem dX8_bestTests_109 : decode cX8_bestTests 109 = .ok (.istore 8, 2) := by decide +kernel
theorem dX8_bestTests_111 : decode cX8_bestTests 111 = .ok (.iload 8, 2) := by decide +kernel
theorem dX8_bestTests_113 : decode cX8_bestTests 113 = .ok (.ifCond .eq 11, 3) := by decide +kernel
theorem dX8_bestTests_116 : decode cX8_bestTests 116 = .ok (.iload_n 3, 1) := by decide +kernel
theorem dX8_bestTests_117 : decode cX8_bestTests 117 = .ok (.istore_n 2, 1) := by decide +kernel
theorem dX8_bestTests_118 : decode cX8_bestTests 118 = .ok (.aload_n 0, 1) := by decide +kernel
theorem dX8_bestTests_119 : decode cX8_bestTests 119 = .ok (.lload 6, 2) := by decide +kernel
theorem dX8_bestTests_121 : decode cX8_bestTests 121 = .ok (.putfield 232, 3) := by decide +kernel
theorem dX8_bestTests_124 : decode cX8_bestTests 124 = .ok (.iinc 3 1, 3) := by decide +kernel
theorem dX8_bestTests_127 : decode cX8_bestTests 127 = .ok (.goto (-109), 3) := by decide +kernel
theorem dX8_bestTests_130 : decode cX8_bestTests 130 = .ok (.iload_n 2, 1) := by decide +kernel
theorem dX8_bestTests_131 : decode cX8_bestTests 131 = .ok (.ireturn, 1) := by decide +kernel
def f_X4_emptyIn (a0 : Nat) (v1 : Int32) (h : Hp) : Option (Int32 × Hp) :=
  b1 (f_X8_isWeek v1 h) fun x3 h1 =>
  if x3 = (0 : Int32) then
    some (0, h1)
  else
    (getQ h1 (some a0) 4 6).bind fun x5 =>
    (rdI h1 x5 10 v1).bind fun x7 =>
    Option.bind ((if x7 = ((-1) : Int32) then
        (getQ h1 (some a0) 4 6).bind fun x42 =>
        (getQ h1 (some a0) 4 0).bind fun x44 =>
        (getI h1 x44 0 3).bind fun x46 =>
        b1 ((if x46 = (0 : Int32) then
            some (0, h1)
          else
            (getQ h1 (some a0) 4 0).bind fun x59 =>
            (getQ h1 x59 0 2).bind fun x61 =>
            (rc h1 (some a0) 4).bind fun g65 =>
            b1 (f_X4_valueOf g65 x61 v1 h1) fun x67 h63 =>
            if x67 = (0 : Int32) then
              some (0, h63)
            else
              some (1, h63) : Option (Int32 × Hp))) fun w69 h70 =>
        (wrI h70 x42 v1 w69).bind fun h72 =>
        some h72
      else
        some h1 : Option (Hp))) fun h74 =>
    (getQ h74 (some a0) 4 6).bind fun x76 =>
    (rdI h74 x76 10 v1).bind fun x78 =>
    some (x78, h74)
set_option maxHeartbeats 4000000 in
theorem t_X4_emptyIn (E : En) (d : Nat) {mc ms : Nat} {a0 : Nat} {v1 : Int32} {h h' : Hp} {r : Int32} {K : Option Vv → Hp → Prop} (hf : f_X4_emptyIn a0 v1 h = some (r, h')) (hk : K (some (vi r)) h') : MC E m_X4_emptyIn (d + 2) mc ms [vq (some a0), vi v1] h K := by
  unfold f_X4_emptyIn at hf
  show MW E m_X4_emptyIn (d + 2) mc ms 0 [some (vq (some a0)), some (vi v1)] [] h K
  refine mw_iload_n (x := v1) dX4_emptyIn_0 rfl ?_
  obtain ⟨x3, h1, e2, hf⟩ := ob1 hf
  refine ml_callSN (mc' := 0) (ms' := 0) [vi v1] dX4_emptyIn_1 mk_X8_isWeek lk_RX4_75 st_X8_isWeek rfl (Nat.le_of_ble_eq_true rfl) (Nat.le_of_ble_eq_true rfl) (t_X8_isWeek E _ e2 isR_rfl) ?_
  refine mw_if_ne (tgt := 9) dX4_emptyIn_4 rfl (fun c4 => ?_) (fun c4 => ?_)
  · rw [if_neg c4] at hf
    refine mw_aload_n (x := (some a0)) dX4_emptyIn_9 rfl ?_
    obtain ⟨x5, e6, hf⟩ := ob hf
    refine ml_getQ dX4_emptyIn_10 fl_RX4_25 rfl e6 ?_
    refine mw_iload_n (x := v1) dX4_emptyIn_13 rfl ?_
    obtain ⟨x7, e8, hf⟩ := ob hf
    refine ml_iald dX4_emptyIn_14 e8 ?_
    refine mw_iconst (v := (-1)) dX4_emptyIn_15 (by decide) ?_
    obtain ⟨h74, r75, hf⟩ := ob hf
    have J80 : MW E m_X4_emptyIn (d + 2) mc ms 55 [some (vq (some a0)), some (vi v1)] [] h74 K := by
      refine mw_aload_n (x := (some a0)) dX4_emptyIn_55 rfl ?_
      obtain ⟨x76, e77, hf⟩ := ob hf
      refine ml_getQ dX4_emptyIn_56 fl_RX4_25 rfl e77 ?_
      refine mw_iload_n (x := v1) dX4_emptyIn_59 rfl ?_
      obtain ⟨x78, e79, hf⟩ := ob hf
      refine ml_iald dX4_emptyIn_60 e79 ?_
      obtain ⟨rfl, rfl⟩ := y1 hf
      exact mw_ireturn dX4_emptyIn_61 rfl rfl hk
    refine mw_icmp_ne (tgt := 55) dX4_emptyIn_16 rfl (fun c9 => ?_) (fun c9 => ?_)
    · rw [if_neg c9] at r75
      obtain rfl := y0 r75
      exact MW.sub (subL_s (subL_s subL_nil)) J80
    · rw [if_pos c9] at r75
      refine mw_aload_n (x := (some a0)) dX4_emptyIn_19 rfl ?_
      obtain ⟨x42, e43, r75⟩ := ob r75
      refine ml_getQ dX4_emptyIn_20 fl_RX4_25 rfl e43 ?_
      refine mw_iload_n (x := v1) dX4_emptyIn_23 rfl ?_
      refine mw_aload_n (x := (some a0)) dX4_emptyIn_24 rfl ?_
      obtain ⟨x44, e45, r75⟩ := ob r75
      refine ml_getQ dX4_emptyIn_25 fl_RX4_12 rfl e45 ?_
      obtain ⟨x46, e47, r75⟩ := ob r75
      refine ml_getI dX4_emptyIn_28 fl_RX4_104 rfl e47 ?_
      obtain ⟨w69, h70, r71, r75⟩ := ob1 r75
      have J81 : MW E m_X4_emptyIn (d + 2) mc ms 54 [some (vq (some a0)), some (vi v1)] [vi w69, vi v1, vq x42] h70 K := by
        obtain ⟨h72, e73, r75⟩ := ob r75
        refine ml_iast dX4_emptyIn_54 e73 ?_
        obtain rfl := y0 r75
        exact MW.sub (subL_s (subL_s subL_nil)) J80
      refine mw_if_eq (tgt := 53) dX4_emptyIn_31 rfl (fun c48 => ?_) (fun c48 => ?_)
      · rw [if_pos c48] at r71
        refine mw_iconst (v := 0) dX4_emptyIn_53 (by decide) ?_
        obtain ⟨rfl, rfl⟩ := y1 r71
        exact MW.sub (subL_s (subL_s subL_nil)) J81
      · rw [if_neg c48] at r71
        refine mw_aload_n (x := (some a0)) dX4_emptyIn_34 rfl ?_
        refine mw_aload_n (x := (some a0)) dX4_emptyIn_35 rfl ?_
        obtain ⟨x59, e60, r71⟩ := ob r71
        refine ml_getQ dX4_emptyIn_36 fl_RX4_12 rfl e60 ?_
        obtain ⟨x61, e62, r71⟩ := ob r71
        refine ml_getQ dX4_emptyIn_39 fl_RX4_108 rfl e62 ?_
        refine mw_iload_n (x := v1) dX4_emptyIn_42 rfl ?_
        obtain ⟨g65, e66, r71⟩ := ob r71
        obtain ⟨x67, h63, e64, r71⟩ := ob1 r71
        refine ml_callV (ci := 4) (mc' := 0) (ms' := 0) [vq x61, vi v1] dX4_emptyIn_43 mk_X4_valueOf lk_RX4_98 im_X4_valueOf se_X4_valueOf (by decide) e66 rfl (Nat.le_of_ble_eq_true rfl) (Nat.le_of_ble_eq_true rfl) (t_X4_valueOf E _ e64 isR_rfl) ?_
        refine mw_if_eq (tgt := 53) dX4_emptyIn_46 rfl (fun c68 => ?_) (fun c68 => ?_)
        · rw [if_pos c68] at r71
          refine mw_iconst (v := 0) dX4_emptyIn_53 (by decide) ?_
          obtain ⟨rfl, rfl⟩ := y1 r71
          exact MW.sub (subL_s (subL_s subL_nil)) J81
        · rw [if_neg c68] at r71
          refine mw_iconst (v := 1) dX4_emptyIn_49 (by decide) ?_
          refine mw_goto (tgt := 54) dX4_emptyIn_50 rfl ?_
          obtain ⟨rfl, rfl⟩ := y1 r71
          exact MW.sub (subL_s (subL_s subL_nil)) J81
  · rw [if_pos c4] at hf
    refine mw_iconst (v := 0) dX4_emptyIn_7 (by decide) ?_
    obtain ⟨rfl, rfl⟩ := y1 hf
    exact mw_ireturn dX4_emptyIn_8 rfl rfl hk
def f_X4_countIn_L36 : Nat → Nat → Int32 → Int32 → Int32 → Int32 → Int32 → Hp → Option ((Int32 × Int32 × Hp))
  | 0, _, _, _, _, _, _, _ => none
  | n + 1, a0, v1, v2, v3, v4, v5, h =>
    (getQ h (some a0) 4 0).bind fun x10 =>
    (getI h x10 0 1).bind fun x12 =>
    if x12 ≤ v5 then
      some (v2, v3, h)
    else
      (getQ h (some a0) 4 0).bind fun x15 =>
      (getQ h x15 0 0).bind fun x17 =>
      (aln h x17 15).bind fun x19 =>
      if x19 ≤ v5 then
        some (v2, v3, h)
      else
        (getQ h (some a0) 4 0).bind fun x22 =>
        (getQ h x22 0 0).bind fun x24 =>
        (rdQ h x24 15 v5).bind fun x26 =>
        b1 ((if x26 = none then
            some (0, h)
          else
            (getQ h (some a0) 4 4).bind fun x36 =>
            (getI h x26 3 0).bind fun x38 =>
            b1 (f_X8_at x36 ((x38 * (104 : Int32)) + v1) h) fun x42 h40 =>
            some (x42, h40) : Option (Int32 × Hp))) fun w43 h44 =>
        b3 ((if x26 = none then
            some (v2, v3, v4, h44)
          else
            if w43 ≤ (0 : Int32) then
              some (v2, v3, v4, h44)
            else
              (getI h44 x26 3 0).bind fun x76 =>
              if ((v4 >>> (x76 &&& 31)) &&& (1 : Int32)) = (0 : Int32) then
                (getQ h44 x26 3 2).bind fun x79 =>
                (rc h44 (some a0) 4).bind fun g83 =>
                b1 (f_X4_valueOf g83 x79 v1 h44) fun x85 h81 =>
                if x85 = (0 : Int32) then
                  some (v2, v3, v4, h81)
                else
                  (getI h81 x26 3 0).bind fun x87 =>
                  (getI h81 x26 3 1).bind fun x89 =>
                  (dvI (w43 * x89) 100).bind fun x91 =>
                  (getI h81 x26 3 1).bind fun x93 =>
                  b1 ((if x93 ≤ (0 : Int32) then
                      some (0, h81)
                    else
                      (getI h81 x26 3 0).bind fun x98 =>
                      some (((1 : Int32) <<< (x98 &&& 31)), h81) : Option (Int32 × Hp))) fun w100 h101 =>
                  some ((v2 + x91), (v3 ||| w100), (v4 ||| ((1 : Int32) <<< (x87 &&& 31))), h101)
              else
                some (v2, v3, v4, h44) : Option (Int32 × Int32 × Int32 × Hp))) fun w103 w104 w105 h106 =>
        f_X4_countIn_L36 n a0 v1 w103 w104 w105 (v5 + 1) h106
def f_X4_countIn (a0 : Nat) (v1 : Int32) (h : Hp) : Option (Int32 × Hp) :=
  b1 (f_X8_isWeek v1 h) fun x3 h1 =>
  if x3 = (0 : Int32) then
    some (0, h1)
  else
    (getQ h1 (some a0) 4 5).bind fun x5 =>
    (rdI h1 x5 10 v1).bind fun x7 =>
    if x7 = ((-1) : Int32) then
      b2 (f_X4_countIn_L36 fu a0 v1 0 0 0 0 h1) fun w108 w109 h110 =>
      (getQ h110 (some a0) 4 5).bind fun x111 =>
      (wrI h110 x111 v1 w108).bind fun h113 =>
      (getQ h113 (some a0) 4 7).bind fun x115 =>
      (wrI h113 x115 v1 w109).bind fun h117 =>
      some (w108, h117)
    else
      (getQ h1 (some a0) 4 5).bind fun x121 =>
      (rdI h1 x121 10 v1).bind fun x123 =>
      some (x123, h1)
set_option maxHeartbeats 4000000 in
theorem tl_X4_countIn_36 (E : En) (d : Nat) {mc ms : Nat} {K : Option Vv → Hp → Prop} : ∀ (n : Nat) (a0 : Nat) (v1 : Int32) (v2 : Int32) (v3 : Int32) (v4 : Int32) (v5 : Int32) (h : Hp) (u2 : Int32) (u3 : Int32) (hz : Hp), f_X4_countIn_L36 n a0 v1 v2 v3 v4 v5 h = some (u2, u3, hz) → MW E m_X4_countIn (d + 2) mc ms 191 [some (vq (some a0)), some (vi v1), some (vi u2), some (vi u3), none, none, none, none] [] hz K → MW E m_X4_countIn (d + 2) mc ms 36 [some (vq (some a0)), some (vi v1), some (vi v2), some (vi v3), some (vi v4), some (vi v5), none, none] [] h K := by
  intro n
  induction n with
  | zero => intro a0 v1 v2 v3 v4 v5 h u2 u3 hz hf; exact nomatch (show none = some _ from hf)
  | succ n ih =>
    intro a0 v1 v2 v3 v4 v5 h u2 u3 hz hf hX191
    rw [f_X4_countIn_L36] at hf
    refine mw_iload (x := v5) dX4_countIn_36 rfl ?_
    refine mw_aload_n (x := (some a0)) dX4_countIn_38 rfl ?_
    obtain ⟨x10, e11, hf⟩ := ob hf
    refine ml_getQ dX4_countIn_39 fl_RX4_12 rfl e11 ?_
    obtain ⟨x12, e13, hf⟩ := ob hf
    refine ml_getI dX4_countIn_42 fl_RX4_79 rfl e13 ?_
    refine mw_icmp_ge (tgt := 191) dX4_countIn_45 rfl (fun c14 => ?_) (fun c14 => ?_)
    · rw [if_pos c14] at hf
      obtain ⟨rfl, rfl, rfl⟩ := y2 hf
      exact MW.sub (subL_s (subL_s (subL_s (subL_s (subL_n (subL_n (subL_n (subL_n subL_nil)))))))) hX191
    · rw [if_neg c14] at hf
      refine mw_iload (x := v5) dX4_countIn_48 rfl ?_
      refine mw_aload_n (x := (some a0)) dX4_countIn_50 rfl ?_
      obtain ⟨x15, e16, hf⟩ := ob hf
      refine ml_getQ dX4_countIn_51 fl_RX4_12 rfl e16 ?_
      obtain ⟨x17, e18, hf⟩ := ob hf
      refine ml_getQ dX4_countIn_54 fl_RX4_82 rfl e18 ?_
      obtain ⟨x19, e20, hf⟩ := ob hf
      refine ml_alen dX4_countIn_57 e20 (by decide) (by decide) ?_
      refine mw_icmp_ge (tgt := 191) dX4_countIn_58 rfl (fun c21 => ?_) (fun c21 => ?_)
      · rw [if_pos c21] at hf
        obtain ⟨rfl, rfl, rfl⟩ := y2 hf
        exact MW.sub (subL_s (subL_s (subL_s (subL_s (subL_n (subL_n (subL_n (subL_n subL_nil)))))))) hX191
      · rw [if_neg c21] at hf
        refine mw_aload_n (x := (some a0)) dX4_countIn_61 rfl ?_
        obtain ⟨x22, e23, hf⟩ := ob hf
        refine ml_getQ dX4_countIn_62 fl_RX4_12 rfl e23 ?_
        obtain ⟨x24, e25, hf⟩ := ob hf
        refine ml_getQ dX4_countIn_65 fl_RX4_82 rfl e25 ?_
        refine mw_iload (x := v5) dX4_countIn_68 rfl ?_
        obtain ⟨x26, e27, hf⟩ := ob hf
        refine ml_aald dX4_countIn_70 e27 (by decide) (by decide) ?_
        refine mw_astore dX4_countIn_71 (by decide) rfl ?_
        refine mw_aload (x := x26) dX4_countIn_73 rfl ?_
        obtain ⟨w43, h44, r45, hf⟩ := ob1 hf
        have J125 : MW E m_X4_countIn (d + 2) mc ms 99 [some (vq (some a0)), some (vi v1), some (vi v2), some (vi v3), some (vi v4), some (vi v5), some (vq x26), none] [vi w43] h44 K := by
          refine mw_istore dX4_countIn_99 (by decide) rfl ?_
          refine mw_aload (x := x26) dX4_countIn_101 rfl ?_
          obtain ⟨w103, w104, w105, h106, r107, hf⟩ := ob3 hf
          have J126 : MW E m_X4_countIn (d + 2) mc ms 185 [some (vq (some a0)), some (vi v1), some (vi w103), some (vi w104), some (vi w105), some (vi v5), none, none] [] h106 K := by
            refine mw_iinc (x := v5) (v := v5 + 1) dX4_countIn_185 rfl rfl (by decide) rfl ?_
            refine mw_goto (tgt := 36) dX4_countIn_188 rfl ?_
            exact MW.sub (subL_s (subL_s (subL_s (subL_s (subL_s (subL_s (subL_n (subL_n subL_nil)))))))) (ih _ _ _ _ _ _ _ _ _ _ hf hX191)
          refine mw_ifnull (tgt := 185) dX4_countIn_103 rfl (fun c46 => ?_) (fun c46 => ?_)
          · rw [if_pos c46] at r107
            obtain ⟨rfl, rfl, rfl, rfl⟩ := y3 r107
            exact MW.sub (subL_s (subL_s (subL_s (subL_s (subL_s (subL_s (subL_n (subL_n subL_nil)))))))) J126
          · rw [if_neg c46] at r107
            refine mw_iload (x := w43) dX4_countIn_106 rfl ?_
            refine mw_if_le (tgt := 185) dX4_countIn_108 rfl (fun c75 => ?_) (fun c75 => ?_)
            · rw [if_pos c75] at r107
              obtain ⟨rfl, rfl, rfl, rfl⟩ := y3 r107
              exact MW.sub (subL_s (subL_s (subL_s (subL_s (subL_s (subL_s (subL_n (subL_n subL_nil)))))))) J126
            · rw [if_neg c75] at r107
              refine mw_iload (x := v4) dX4_countIn_111 rfl ?_
              refine mw_aload (x := x26) dX4_countIn_113 rfl ?_
              obtain ⟨x76, e77, r107⟩ := ob r107
              refine ml_getI dX4_countIn_115 fl_RX4_86 rfl e77 ?_
              refine mw_ishr dX4_countIn_118 ?_
              refine mw_iconst (v := 1) dX4_countIn_119 (by decide) ?_
              refine mw_iand dX4_countIn_120 ?_
              refine mw_if_ne (tgt := 185) dX4_countIn_121 rfl (fun c78 => ?_) (fun c78 => ?_)
              · rw [if_neg c78] at r107
                obtain ⟨rfl, rfl, rfl, rfl⟩ := y3 r107
                exact MW.sub (subL_s (subL_s (subL_s (subL_s (subL_s (subL_s (subL_n (subL_n subL_nil)))))))) J126
              · rw [if_pos c78] at r107
                refine mw_aload_n (x := (some a0)) dX4_countIn_124 rfl ?_
                refine mw_aload (x := x26) dX4_countIn_125 rfl ?_
                obtain ⟨x79, e80, r107⟩ := ob r107
                refine ml_getQ dX4_countIn_127 fl_RX4_95 rfl e80 ?_
                refine mw_iload_n (x := v1) dX4_countIn_130 rfl ?_
                obtain ⟨g83, e84, r107⟩ := ob r107
                obtain ⟨x85, h81, e82, r107⟩ := ob1 r107
                refine ml_callV (ci := 4) (mc' := 0) (ms' := 0) [vq x79, vi v1] dX4_countIn_131 mk_X4_valueOf lk_RX4_98 im_X4_valueOf se_X4_valueOf (by decide) e84 rfl (Nat.le_of_ble_eq_true rfl) (Nat.le_of_ble_eq_true rfl) (t_X4_valueOf E _ e82 isR_rfl) ?_
                refine mw_if_eq (tgt := 185) dX4_countIn_134 rfl (fun c86 => ?_) (fun c86 => ?_)
                · rw [if_pos c86] at r107
                  obtain ⟨rfl, rfl, rfl, rfl⟩ := y3 r107
                  exact MW.sub (subL_s (subL_s (subL_s (subL_s (subL_s (subL_s (subL_n (subL_n subL_nil)))))))) J126
                · rw [if_neg c86] at r107
                  refine mw_iload (x := v4) dX4_countIn_137 rfl ?_
                  refine mw_iconst (v := 1) dX4_countIn_139 (by decide) ?_
                  refine mw_aload (x := x26) dX4_countIn_140 rfl ?_
                  obtain ⟨x87, e88, r107⟩ := ob r107
                  refine ml_getI dX4_countIn_142 fl_RX4_86 rfl e88 ?_
                  refine mw_ishl dX4_countIn_145 ?_
                  refine mw_ior dX4_countIn_146 ?_
                  refine mw_istore dX4_countIn_147 (by decide) rfl ?_
                  refine mw_iload_n (x := v2) dX4_countIn_149 rfl ?_
                  refine mw_iload (x := w43) dX4_countIn_150 rfl ?_
                  refine mw_aload (x := x26) dX4_countIn_152 rfl ?_
                  obtain ⟨x89, e90, r107⟩ := ob r107
                  refine ml_getI dX4_countIn_154 fl_RX4_101 rfl e90 ?_
                  refine mw_imul dX4_countIn_157 ?_
                  refine mw_bipush (v := 100) dX4_countIn_158 (by decide) ?_
                  obtain ⟨x91, e92, r107⟩ := ob r107
                  refine ml_idiv dX4_countIn_160 e92 ?_
                  refine mw_iadd dX4_countIn_161 ?_
                  refine mw_istore_n dX4_countIn_162 (by decide) rfl ?_
                  refine mw_iload_n (x := v3) dX4_countIn_163 rfl ?_
                  refine mw_aload (x := x26) dX4_countIn_164 rfl ?_
                  obtain ⟨x93, e94, r107⟩ := ob r107
                  refine ml_getI dX4_countIn_166 fl_RX4_101 rfl e94 ?_
                  obtain ⟨w100, h101, r102, r107⟩ := ob1 r107
                  have J127 : MW E m_X4_countIn (d + 2) mc ms 183 [some (vq (some a0)), some (vi v1), some (vi (v2 + x91)), none, some (vi (v4 ||| ((1 : Int32) <<< (x87 &&& 31)))), some (vi v5), none, none] [vi w100, vi v3] h101 K := by
                    refine mw_ior dX4_countIn_183 ?_
                    refine mw_istore_n dX4_countIn_184 (by decide) rfl ?_
                    obtain ⟨rfl, rfl, rfl, rfl⟩ := y3 r107
                    exact MW.sub (subL_s (subL_s (subL_s (subL_s (subL_s (subL_s (subL_n (subL_n subL_nil)))))))) J126
                  refine mw_if_le (tgt := 182) dX4_countIn_169 rfl (fun c95 => ?_) (fun c95 => ?_)
                  · rw [if_pos c95] at r102
                    refine mw_iconst (v := 0) dX4_countIn_182 (by decide) ?_
                    obtain ⟨rfl, rfl⟩ := y1 r102
                    exact MW.sub (subL_s (subL_s (subL_s (subL_n (subL_s (subL_s (subL_n (subL_n subL_nil)))))))) J127
                  · rw [if_neg c95] at r102
                    refine mw_iconst (v := 1) dX4_countIn_172 (by decide) ?_
                    refine mw_aload (x := x26) dX4_countIn_173 rfl ?_
                    obtain ⟨x98, e99, r102⟩ := ob r102
                    refine ml_getI dX4_countIn_175 fl_RX4_86 rfl e99 ?_
                    refine mw_ishl dX4_countIn_178 ?_
                    refine mw_goto (tgt := 183) dX4_countIn_179 rfl ?_
                    obtain ⟨rfl, rfl⟩ := y1 r102
                    exact MW.sub (subL_s (subL_s (subL_s (subL_n (subL_s (subL_s (subL_n (subL_n subL_nil)))))))) J127
        refine mw_ifnonnull (tgt := 82) dX4_countIn_75 rfl (fun c28 => ?_) (fun c28 => ?_)
        · rw [if_neg c28] at r45
          refine mw_aload_n (x := (some a0)) dX4_countIn_82 rfl ?_
          obtain ⟨x36, e37, r45⟩ := ob r45
          refine ml_getQ dX4_countIn_83 fl_RX4_18 rfl e37 ?_
          refine mw_aload (x := x26) dX4_countIn_86 rfl ?_
          obtain ⟨x38, e39, r45⟩ := ob r45
          refine ml_getI dX4_countIn_88 fl_RX4_86 rfl e39 ?_
          refine mw_bipush (v := 104) dX4_countIn_91 (by decide) ?_
          refine mw_imul dX4_countIn_93 ?_
          refine mw_iload_n (x := v1) dX4_countIn_94 rfl ?_
          refine mw_iadd dX4_countIn_95 ?_
          obtain ⟨x42, h40, e41, r45⟩ := ob1 r45
          refine ml_callSN (mc' := 0) (ms' := 0) [vq x36, vi ((x38 * (104 : Int32)) + v1)] dX4_countIn_96 mk_X8_at lk_RX4_91 st_X8_at rfl (Nat.le_of_ble_eq_true rfl) (Nat.le_of_ble_eq_true rfl) (t_X8_at E _ e41 isR_rfl) ?_
          obtain ⟨rfl, rfl⟩ := y1 r45
          exact MW.sub (subL_s (subL_s (subL_s (subL_s (subL_s (subL_s (subL_s (subL_n subL_nil)))))))) J125
        · rw [if_pos c28] at r45
          refine mw_iconst (v := 0) dX4_countIn_78 (by decide) ?_
          refine mw_goto (tgt := 99) dX4_countIn_79 rfl ?_
          obtain ⟨rfl, rfl⟩ := y1 r45
          exact MW.sub (subL_s (subL_s (subL_s (subL_s (subL_s (subL_s (subL_s (subL_n subL_nil)))))))) J125
set_option maxHeartbeats 4000000 in
theorem t_X4_countIn (E : En) (d : Nat) {mc ms : Nat} {a0 : Nat} {v1 : Int32} {h h' : Hp} {r : Int32} {K : Option Vv → Hp → Prop} (hf : f_X4_countIn a0 v1 h = some (r, h')) (hk : K (some (vi r)) h') : MC E m_X4_countIn (d + 2) mc ms [vq (some a0), vi v1] h K := by
  unfold f_X4_countIn at hf
  show MW E m_X4_countIn (d + 2) mc ms 0 [some (vq (some a0)), some (vi v1), none, none, none, none, none, none] [] h K
  refine mw_iload_n (x := v1) dX4_countIn_0 rfl ?_
  obtain ⟨x3, h1, e2, hf⟩ := ob1 hf
  refine ml_callSN (mc' := 0) (ms' := 0) [vi v1] dX4_countIn_1 mk_X8_isWeek lk_RX4_75 st_X8_isWeek rfl (Nat.le_of_ble_eq_true rfl) (Nat.le_of_ble_eq_true rfl) (t_X8_isWeek E _ e2 isR_rfl) ?_
  refine mw_if_ne (tgt := 9) dX4_countIn_4 rfl (fun c4 => ?_) (fun c4 => ?_)
  · rw [if_neg c4] at hf
    refine mw_aload_n (x := (some a0)) dX4_countIn_9 rfl ?_
    obtain ⟨x5, e6, hf⟩ := ob hf
    refine ml_getQ dX4_countIn_10 fl_RX4_22 rfl e6 ?_
    refine mw_iload_n (x := v1) dX4_countIn_13 rfl ?_
    obtain ⟨x7, e8, hf⟩ := ob hf
    refine ml_iald dX4_countIn_14 e8 ?_
    refine mw_iconst (v := (-1)) dX4_countIn_15 (by decide) ?_
    refine mw_icmp_eq (tgt := 26) dX4_countIn_16 rfl (fun c9 => ?_) (fun c9 => ?_)
    · rw [if_pos c9] at hf
      refine mw_iconst (v := 0) dX4_countIn_26 (by decide) ?_
      refine mw_istore_n dX4_countIn_27 (by decide) rfl ?_
      refine mw_iconst (v := 0) dX4_countIn_28 (by decide) ?_
      refine mw_istore_n dX4_countIn_29 (by decide) rfl ?_
      refine mw_iconst (v := 0) dX4_countIn_30 (by decide) ?_
      refine mw_istore dX4_countIn_31 (by decide) rfl ?_
      refine mw_iconst (v := 0) dX4_countIn_33 (by decide) ?_
      refine mw_istore dX4_countIn_34 (by decide) rfl ?_
      obtain ⟨w108, w109, h110, e119, hf⟩ := ob2 hf
      refine MW.sub (subL_s (subL_s (subL_s (subL_s (subL_s (subL_s (subL_n (subL_n subL_nil)))))))) (tl_X4_countIn_36 E d _ _ _ _ _ _ _ _ _ _ _ e119 ?_)
      refine mw_aload_n (x := (some a0)) dX4_countIn_191 rfl ?_
      obtain ⟨x111, e112, hf⟩ := ob hf
      refine ml_getQ dX4_countIn_192 fl_RX4_22 rfl e112 ?_
      refine mw_iload_n (x := v1) dX4_countIn_195 rfl ?_
      refine mw_iload_n (x := w108) dX4_countIn_196 rfl ?_
      obtain ⟨h113, e114, hf⟩ := ob hf
      refine ml_iast dX4_countIn_197 e114 ?_
      refine mw_aload_n (x := (some a0)) dX4_countIn_198 rfl ?_
      obtain ⟨x115, e116, hf⟩ := ob hf
      refine ml_getQ dX4_countIn_199 fl_RX4_28 rfl e116 ?_
      refine mw_iload_n (x := v1) dX4_countIn_202 rfl ?_
      refine mw_iload_n (x := w109) dX4_countIn_203 rfl ?_
      obtain ⟨h117, e118, hf⟩ := ob hf
      refine ml_iast dX4_countIn_204 e118 ?_
      refine mw_iload_n (x := w108) dX4_countIn_205 rfl ?_
      obtain ⟨rfl, rfl⟩ := y1 hf
      exact mw_ireturn dX4_countIn_206 rfl rfl hk
    · rw [if_neg c9] at hf
      refine mw_aload_n (x := (some a0)) dX4_countIn_19 rfl ?_
      obtain ⟨x121, e122, hf⟩ := ob hf
      refine ml_getQ dX4_countIn_20 fl_RX4_22 rfl e122 ?_
      refine mw_iload_n (x := v1) dX4_countIn_23 rfl ?_
      obtain ⟨x123, e124, hf⟩ := ob hf
      refine ml_iald dX4_countIn_24 e124 ?_
      obtain ⟨rfl, rfl⟩ := y1 hf
      exact mw_ireturn dX4_countIn_25 rfl rfl hk
  · rw [if_pos c4] at hf
    refine mw_iconst (v := 0) dX4_countIn_7 (by decide) ?_
    obtain ⟨rfl, rfl⟩ := y1 hf
    exact mw_ireturn dX4_countIn_8 rfl rfl hk
def f_X4_averageFor_L52 : Nat → Nat → Int32 → Int32 → Int32 → Int32 → Hp → Option ((Int32 × Hp))
  | 0, _, _, _, _, _, _ => none
  | n + 1, a0, v2, v3, v5, v6, h =>
    if v6 < v5 then
      some (v2, h)
    else
      (getI h (some a0) 4 9).bind fun x22 =>
      if v3 ≤ x22 then
        some (v2, h)
      else
        (rc h (some a0) 4).bind fun g27 =>
        b1 (f_X4_emptyIn g27 v6 h) fun x29 h25 =>
        b1 ((if x29 = (0 : Int32) then
            (rc h25 (some a0) 4).bind fun g51 =>
            b1 (f_X4_countIn g51 v6 h25) fun x53 h49 =>
            (getI h49 (some a0) 4 10).bind fun x54 =>
            (getQ h49 (some a0) 4 7).bind fun x56 =>
            b1 (f_X8_at x56 v6 h49) fun x60 h58 =>
            (putI h58 (some a0) 4 10 (x54 ||| x60)).bind fun h61 =>
            (getI h61 (some a0) 4 9).bind fun x63 =>
            (putI h61 (some a0) 4 9 (x63 + (1 : Int32))).bind fun h65 =>
            some ((v2 + x53), h65)
          else
            some (v2, h25) : Option (Int32 × Hp))) fun w67 h68 =>
        f_X4_averageFor_L52 n a0 w67 v3 v5 (v6 + (-1)) h68
def f_X4_averageFor (a0 : Nat) (v1 : Int32) (h : Hp) : Option (Int32 × Hp) :=
  (getQ h (some a0) 4 0).bind fun x1 =>
  (rc h x1 0).bind fun g5 =>
  b1 (f_X0_number g5 (0 : Int32) h) fun x7 h3 =>
  (dvI v1 7).bind fun x8 =>
  (getQ h3 (some a0) 4 0).bind fun x10 =>
  (rc h3 x10 0).bind fun g14 =>
  b1 (f_X0_number g14 (1 : Int32) h3) fun x16 h12 =>
  (putI h12 (some a0) 4 9 0).bind fun h17 =>
  (putI h17 (some a0) 4 10 0).bind fun h19 =>
  b1 (f_X4_averageFor_L52 fu a0 0 x7 (mxI (0 : Int32) (((x8 - (1 : Int32)) + (1 : Int32)) - x16)) (x8 - (1 : Int32)) h19) fun w70 h71 =>
  (getI h71 (some a0) 4 9).bind fun x72 =>
  b1 ((if x72 ≤ (0 : Int32) then
      some (0, h71)
    else
      (getI h71 (some a0) 4 9).bind fun x79 =>
      (dvI w70 x79).bind fun x81 =>
      some (x81, h71) : Option (Int32 × Hp))) fun w83 h84 =>
  some (w83, h84)
set_option maxHeartbeats 4000000 in
theorem tl_X4_averageFor_52 (E : En) (d : Nat) {mc ms : Nat} {K : Option Vv → Hp → Prop} : ∀ (n : Nat) (a0 : Nat) (v2 : Int32) (v3 : Int32) (v5 : Int32) (v6 : Int32) (h : Hp) (u2 : Int32) (hz : Hp), f_X4_averageFor_L52 n a0 v2 v3 v5 v6 h = some (u2, hz) → MW E m_X4_averageFor (d + 3) mc ms 119 [some (vq (some a0)), none, some (vi u2), none, none, none, none] [] hz K → MW E m_X4_averageFor (d + 3) mc ms 52 [some (vq (some a0)), none, some (vi v2), some (vi v3), none, some (vi v5), some (vi v6)] [] h K := by
  intro n
  induction n with
  | zero => intro a0 v2 v3 v5 v6 h u2 hz hf; exact nomatch (show none = some _ from hf)
  | succ n ih =>
    intro a0 v2 v3 v5 v6 h u2 hz hf hX119
    rw [f_X4_averageFor_L52] at hf
    refine mw_iload (x := v6) dX4_averageFor_52 rfl ?_
    refine mw_iload (x := v5) dX4_averageFor_54 rfl ?_
    refine mw_icmp_lt (tgt := 119) dX4_averageFor_56 rfl (fun c21 => ?_) (fun c21 => ?_)
    · rw [if_pos c21] at hf
      obtain ⟨rfl, rfl⟩ := y1 hf
      exact MW.sub (subL_s (subL_n (subL_s (subL_n (subL_n (subL_n (subL_n subL_nil))))))) hX119
    · rw [if_neg c21] at hf
      refine mw_aload_n (x := (some a0)) dX4_averageFor_59 rfl ?_
      obtain ⟨x22, e23, hf⟩ := ob hf
      refine ml_getI dX4_averageFor_60 fl_RX4_135 rfl e23 ?_
      refine mw_iload_n (x := v3) dX4_averageFor_63 rfl ?_
      refine mw_icmp_ge (tgt := 119) dX4_averageFor_64 rfl (fun c24 => ?_) (fun c24 => ?_)
      · rw [if_pos c24] at hf
        obtain ⟨rfl, rfl⟩ := y1 hf
        exact MW.sub (subL_s (subL_n (subL_s (subL_n (subL_n (subL_n (subL_n subL_nil))))))) hX119
      · rw [if_neg c24] at hf
        refine mw_aload_n (x := (some a0)) dX4_averageFor_67 rfl ?_
        refine mw_iload (x := v6) dX4_averageFor_68 rfl ?_
        obtain ⟨g27, e28, hf⟩ := ob hf
        obtain ⟨x29, h25, e26, hf⟩ := ob1 hf
        refine ml_callV (ci := 4) (mc' := 0) (ms' := 0) [vi v6] dX4_averageFor_70 mk_X4_emptyIn lk_RX4_141 im_X4_emptyIn se_X4_emptyIn (by decide) e28 rfl (Nat.le_of_ble_eq_true rfl) (Nat.le_of_ble_eq_true rfl) (t_X4_emptyIn E _ e26 isR_rfl) ?_
        obtain ⟨w67, h68, r69, hf⟩ := ob1 hf
        have J88 : MW E m_X4_averageFor (d + 3) mc ms 113 [some (vq (some a0)), none, some (vi w67), some (vi v3), none, some (vi v5), some (vi v6)] [] h68 K := by
          refine mw_iinc (x := v6) (v := v6 + (-1)) dX4_averageFor_113 rfl rfl (by decide) rfl ?_
          refine mw_goto (tgt := 52) dX4_averageFor_116 rfl ?_
          exact MW.sub (subL_s (subL_n (subL_s (subL_s (subL_n (subL_s (subL_s subL_nil))))))) (ih _ _ _ _ _ _ _ _ hf hX119)
        refine mw_if_ne (tgt := 113) dX4_averageFor_73 rfl (fun c30 => ?_) (fun c30 => ?_)
        · rw [if_neg c30] at r69
          obtain ⟨rfl, rfl⟩ := y1 r69
          exact MW.sub (subL_s (subL_n (subL_s (subL_s (subL_n (subL_s (subL_s subL_nil))))))) J88
        · rw [if_pos c30] at r69
          refine mw_iload_n (x := v2) dX4_averageFor_76 rfl ?_
          refine mw_aload_n (x := (some a0)) dX4_averageFor_77 rfl ?_
          refine mw_iload (x := v6) dX4_averageFor_78 rfl ?_
          obtain ⟨g51, e52, r69⟩ := ob r69
          obtain ⟨x53, h49, e50, r69⟩ := ob1 r69
          refine ml_callV (ci := 4) (mc' := 0) (ms' := 0) [vi v6] dX4_averageFor_80 mk_X4_countIn lk_RX4_144 im_X4_countIn se_X4_countIn (by decide) e52 rfl (Nat.le_of_ble_eq_true rfl) (Nat.le_of_ble_eq_true rfl) (t_X4_countIn E _ e50 isR_rfl) ?_
          refine mw_iadd dX4_averageFor_83 ?_
          refine mw_istore_n dX4_averageFor_84 (by decide) rfl ?_
          refine mw_aload_n (x := (some a0)) dX4_averageFor_85 rfl ?_
          refine mw_dupq dX4_averageFor_86 ?_
          obtain ⟨x54, e55, r69⟩ := ob r69
          refine ml_getI dX4_averageFor_87 fl_RX4_138 rfl e55 ?_
          refine mw_aload_n (x := (some a0)) dX4_averageFor_90 rfl ?_
          obtain ⟨x56, e57, r69⟩ := ob r69
          refine ml_getQ dX4_averageFor_91 fl_RX4_28 rfl e57 ?_
          refine mw_iload (x := v6) dX4_averageFor_94 rfl ?_
          obtain ⟨x60, h58, e59, r69⟩ := ob1 r69
          refine ml_callSN (mc' := 0) (ms' := 0) [vq x56, vi v6] dX4_averageFor_96 mk_X8_at lk_RX4_91 st_X8_at rfl (Nat.le_of_ble_eq_true rfl) (Nat.le_of_ble_eq_true rfl) (t_X8_at E _ e59 isR_rfl) ?_
          refine mw_ior dX4_averageFor_99 ?_
          obtain ⟨h61, e62, r69⟩ := ob r69
          refine ml_putI dX4_averageFor_100 fl_RX4_138 (Or.inl rfl) rfl rfl e62 ?_
          refine mw_aload_n (x := (some a0)) dX4_averageFor_103 rfl ?_
          refine mw_dupq dX4_averageFor_104 ?_
          obtain ⟨x63, e64, r69⟩ := ob r69
          refine ml_getI dX4_averageFor_105 fl_RX4_135 rfl e64 ?_
          refine mw_iconst (v := 1) dX4_averageFor_108 (by decide) ?_
          refine mw_iadd dX4_averageFor_109 ?_
          obtain ⟨h65, e66, r69⟩ := ob r69
          refine ml_putI dX4_averageFor_110 fl_RX4_135 (Or.inl rfl) rfl rfl e66 ?_
          obtain ⟨rfl, rfl⟩ := y1 r69
          exact MW.sub (subL_s (subL_n (subL_s (subL_s (subL_n (subL_s (subL_s subL_nil))))))) J88
set_option maxHeartbeats 4000000 in
theorem t_X4_averageFor (E : En) (d : Nat) {mc ms : Nat} {a0 : Nat} {v1 : Int32} {h h' : Hp} {r : Int32} {K : Option Vv → Hp → Prop} (hf : f_X4_averageFor a0 v1 h = some (r, h')) (hk : K (some (vi r)) h') : MC E m_X4_averageFor (d + 3) mc ms [vq (some a0), vi v1] h K := by
  unfold f_X4_averageFor at hf
  show MW E m_X4_averageFor (d + 3) mc ms 0 [some (vq (some a0)), some (vi v1), none, none, none, none, none] [] h K
  refine mw_iconst (v := 0) dX4_averageFor_0 (by decide) ?_
  refine mw_istore_n dX4_averageFor_1 (by decide) rfl ?_
  refine mw_aload_n (x := (some a0)) dX4_averageFor_2 rfl ?_
  obtain ⟨x1, e2, hf⟩ := ob hf
  refine ml_getQ dX4_averageFor_3 fl_RX4_12 rfl e2 ?_
  refine mw_iconst (v := 0) dX4_averageFor_6 (by decide) ?_
  obtain ⟨g5, e6, hf⟩ := ob hf
  obtain ⟨x7, h3, e4, hf⟩ := ob1 hf
  refine ml_callV (ci := 0) (mc' := 0) (ms' := 0) [vi (0 : Int32)] dX4_averageFor_7 mk_X0_number lk_RX4_126 im_X0_number se_X0_number (by decide) e6 rfl (Nat.le_of_ble_eq_true rfl) (Nat.le_of_ble_eq_true rfl) (t_X0_number E _ e4 isR_rfl) ?_
  refine mw_istore_n dX4_averageFor_10 (by decide) rfl ?_
  refine mw_iload_n (x := v1) dX4_averageFor_11 rfl ?_
  refine mw_bipush (v := 7) dX4_averageFor_12 (by decide) ?_
  obtain ⟨x8, e9, hf⟩ := ob hf
  refine ml_idiv dX4_averageFor_14 e9 ?_
  refine mw_iconst (v := 1) dX4_averageFor_15 (by decide) ?_
  refine mw_isub dX4_averageFor_16 ?_
  refine mw_istore dX4_averageFor_17 (by decide) rfl ?_
  refine mw_iconst (v := 0) dX4_averageFor_19 (by decide) ?_
  refine mw_iload (x := (x8 - (1 : Int32))) dX4_averageFor_20 rfl ?_
  refine mw_iconst (v := 1) dX4_averageFor_22 (by decide) ?_
  refine mw_iadd dX4_averageFor_23 ?_
  refine mw_aload_n (x := (some a0)) dX4_averageFor_24 rfl ?_
  obtain ⟨x10, e11, hf⟩ := ob hf
  refine ml_getQ dX4_averageFor_25 fl_RX4_12 rfl e11 ?_
  refine mw_iconst (v := 1) dX4_averageFor_28 (by decide) ?_
  obtain ⟨g14, e15, hf⟩ := ob hf
  obtain ⟨x16, h12, e13, hf⟩ := ob1 hf
  refine ml_callV (ci := 0) (mc' := 0) (ms' := 0) [vi (1 : Int32)] dX4_averageFor_29 mk_X0_number lk_RX4_126 im_X0_number se_X0_number (by decide) e15 rfl (Nat.le_of_ble_eq_true rfl) (Nat.le_of_ble_eq_true rfl) (t_X0_number E _ e13 isR_rfl) ?_
  refine mw_isub dX4_averageFor_32 ?_
  refine ml_max dX4_averageFor_33 lk_RX4_130 (Nat.le_of_ble_eq_true rfl) ?_
  refine mw_istore dX4_averageFor_36 (by decide) rfl ?_
  refine mw_aload_n (x := (some a0)) dX4_averageFor_38 rfl ?_
  refine mw_iconst (v := 0) dX4_averageFor_39 (by decide) ?_
  obtain ⟨h17, e18, hf⟩ := ob hf
  refine ml_putI dX4_averageFor_40 fl_RX4_135 (Or.inl rfl) rfl rfl e18 ?_
  refine mw_aload_n (x := (some a0)) dX4_averageFor_43 rfl ?_
  refine mw_iconst (v := 0) dX4_averageFor_44 (by decide) ?_
  obtain ⟨h19, e20, hf⟩ := ob hf
  refine ml_putI dX4_averageFor_45 fl_RX4_138 (Or.inl rfl) rfl rfl e20 ?_
  refine mw_iload (x := (x8 - (1 : Int32))) dX4_averageFor_48 rfl ?_
  refine mw_istore dX4_averageFor_50 (by decide) rfl ?_
  obtain ⟨w70, h71, e86, hf⟩ := ob1 hf
  refine MW.sub (subL_s (subL_n (subL_s (subL_s (subL_n (subL_s (subL_s subL_nil))))))) (tl_X4_averageFor_52 E d _ _ _ _ _ _ _ _ _ e86 ?_)
  refine mw_aload_n (x := (some a0)) dX4_averageFor_119 rfl ?_
  obtain ⟨x72, e73, hf⟩ := ob hf
  refine ml_getI dX4_averageFor_120 fl_RX4_135 rfl e73 ?_
  obtain ⟨w83, h84, r85, hf⟩ := ob1 hf
  have J89 : MW E m_X4_averageFor (d + 3) mc ms 136 [none, none, none, none, none, none, none] [vi w83] h84 K := by
    obtain ⟨rfl, rfl⟩ := y1 hf
    exact mw_ireturn dX4_averageFor_136 rfl rfl hk
  refine mw_if_le (tgt := 135) dX4_averageFor_123 rfl (fun c74 => ?_) (fun c74 => ?_)
  · rw [if_pos c74] at r85
    refine mw_iconst (v := 0) dX4_averageFor_135 (by decide) ?_
    obtain ⟨rfl, rfl⟩ := y1 r85
    exact MW.sub (subL_n (subL_n (subL_n (subL_n (subL_n (subL_n (subL_n subL_nil))))))) J89
  · rw [if_neg c74] at r85
    refine mw_iload_n (x := w70) dX4_averageFor_126 rfl ?_
    refine mw_aload_n (x := (some a0)) dX4_averageFor_127 rfl ?_
    obtain ⟨x79, e80, r85⟩ := ob r85
    refine ml_getI dX4_averageFor_128 fl_RX4_135 rfl e80 ?_
    obtain ⟨x81, e82, r85⟩ := ob r85
    refine ml_idiv dX4_averageFor_131 e82 ?_
    refine mw_goto (tgt := 136) dX4_averageFor_132 rfl ?_
    obtain ⟨rfl, rfl⟩ := y1 r85
    exact MW.sub (subL_n (subL_n (subL_n (subL_n (subL_n (subL_n (subL_n subL_nil))))))) J89
def f_X4_listedAt (a0 : Nat) (v1 : Int32) (h : Hp) : Option (Option Nat × Hp) :=
  b1 ((if v1 < (0 : Int32) then
      some (none, h)
    else
      (getI h (some a0) 4 12).bind fun x14 =>
      if x14 ≤ v1 then
        some (none, h)
      else
        (getQ h (some a0) 4 11).bind fun x17 =>
        (aln h x17 14).bind fun x19 =>
        if x19 ≤ v1 then
          some (none, h)
        else
          (getQ h (some a0) 4 11).bind fun x22 =>
          (rdQ h x22 14 v1).bind fun x24 =>
          some (x24, h) : Option (Option Nat × Hp))) fun w26 h27 =>
  some (w26, h27)
set_option maxHeartbeats 4000000 in
theorem t_X4_listedAt (E : En) (d : Nat) {mc ms : Nat} {a0 : Nat} {v1 : Int32} {h h' : Hp} {r : Option Nat} {K : Option Vv → Hp → Prop} (hf : f_X4_listedAt a0 v1 h = some (r, h')) (hk : K (some (vq r)) h') : MC E m_X4_listedAt (d + 0) mc ms [vq (some a0), vi v1] h K := by
  unfold f_X4_listedAt at hf
  show MW E m_X4_listedAt (d + 0) mc ms 0 [some (vq (some a0)), some (vi v1)] [] h K
  refine mw_iload_n (x := v1) dX4_listedAt_0 rfl ?_
  obtain ⟨w26, h27, r28, hf⟩ := ob1 hf
  have J29 : MW E m_X4_listedAt (d + 0) mc ms 31 [none, none] [vq w26] h27 K := by
    obtain ⟨rfl, rfl⟩ := y1 hf
    exact mw_areturn dX4_listedAt_31 rfl (Or.inl ⟨_, rfl⟩) hk
  refine mw_if_lt (tgt := 30) dX4_listedAt_1 rfl (fun c1 => ?_) (fun c1 => ?_)
  · rw [if_pos c1] at r28
    refine mw_null dX4_listedAt_30 ?_
    obtain ⟨rfl, rfl⟩ := y1 r28
    exact MW.sub (subL_n (subL_n subL_nil)) J29
  · rw [if_neg c1] at r28
    refine mw_iload_n (x := v1) dX4_listedAt_4 rfl ?_
    refine mw_aload_n (x := (some a0)) dX4_listedAt_5 rfl ?_
    obtain ⟨x14, e15, r28⟩ := ob r28
    refine ml_getI dX4_listedAt_6 fl_RX4_172 rfl e15 ?_
    refine mw_icmp_ge (tgt := 30) dX4_listedAt_9 rfl (fun c16 => ?_) (fun c16 => ?_)
    · rw [if_pos c16] at r28
      refine mw_null dX4_listedAt_30 ?_
      obtain ⟨rfl, rfl⟩ := y1 r28
      exact MW.sub (subL_n (subL_n subL_nil)) J29
    · rw [if_neg c16] at r28
      refine mw_iload_n (x := v1) dX4_listedAt_12 rfl ?_
      refine mw_aload_n (x := (some a0)) dX4_listedAt_13 rfl ?_
      obtain ⟨x17, e18, r28⟩ := ob r28
      refine ml_getQ dX4_listedAt_14 fl_RX4_36 rfl e18 ?_
      obtain ⟨x19, e20, r28⟩ := ob r28
      refine ml_alen dX4_listedAt_17 e20 (by decide) (by decide) ?_
      refine mw_icmp_ge (tgt := 30) dX4_listedAt_18 rfl (fun c21 => ?_) (fun c21 => ?_)
      · rw [if_pos c21] at r28
        refine mw_null dX4_listedAt_30 ?_
        obtain ⟨rfl, rfl⟩ := y1 r28
        exact MW.sub (subL_n (subL_n subL_nil)) J29
      · rw [if_neg c21] at r28
        refine mw_aload_n (x := (some a0)) dX4_listedAt_21 rfl ?_
        obtain ⟨x22, e23, r28⟩ := ob r28
        refine ml_getQ dX4_listedAt_22 fl_RX4_36 rfl e23 ?_
        refine mw_iload_n (x := v1) dX4_listedAt_25 rfl ?_
        obtain ⟨x24, e25, r28⟩ := ob r28
        refine ml_aald dX4_listedAt_26 e25 (by decide) (by decide) ?_
        refine mw_goto (tgt := 31) dX4_listedAt_27 rfl ?_
        obtain ⟨rfl, rfl⟩ := y1 r28
        exact MW.sub (subL_n (subL_n subL_nil)) J29
def f_X4_withInterest (a0 : Nat) (q1 : Option Nat) (v2 : Int32) (h : Hp) : Option (Int64 × Hp) :=
  (getI h q1 1 9).bind fun x1 =>
  (getI h q1 1 9).bind fun x3 =>
  (getQ h (some a0) 4 0).bind fun x5 =>
  (rc h x5 0).bind fun g9 =>
  b1 (f_X0_number g9 (6 : Int32) h) fun x11 h7 =>
  (getI h7 q1 1 2).bind fun x12 =>
  (dvJ (((x3.toInt64) * (x11.toInt64)) * ((v2 - x12).toInt64)) 365000).bind fun x14 =>
  some (((x1.toInt64) + x14), h7)
set_option maxHeartbeats 4000000 in
theorem t_X4_withInterest (E : En) (d : Nat) {mc ms : Nat} {a0 : Nat} {q1 : Option Nat} {v2 : Int32} {h h' : Hp} {r : Int64} {K : Option Vv → Hp → Prop} (hf : f_X4_withInterest a0 q1 v2 h = some (r, h')) (hk : K (some (vl r)) h') : MC E m_X4_withInterest (d + 2) mc ms [vq (some a0), vq q1, vi v2] h K := by
  unfold f_X4_withInterest at hf
  show MW E m_X4_withInterest (d + 2) mc ms 0 [some (vq (some a0)), some (vq q1), some (vi v2)] [] h K
  refine mw_aload_n (x := q1) dX4_withInterest_0 rfl ?_
  obtain ⟨x1, e2, hf⟩ := ob hf
  refine ml_getI dX4_withInterest_1 fl_RX4_179 rfl e2 ?_
  refine mw_i2l dX4_withInterest_4 ?_
  refine mw_aload_n (x := q1) dX4_withInterest_5 rfl ?_
  obtain ⟨x3, e4, hf⟩ := ob hf
  refine ml_getI dX4_withInterest_6 fl_RX4_179 rfl e4 ?_
  refine mw_i2l dX4_withInterest_9 ?_
  refine mw_aload_n (x := (some a0)) dX4_withInterest_10 rfl ?_
  obtain ⟨x5, e6, hf⟩ := ob hf
  refine ml_getQ dX4_withInterest_11 fl_RX4_12 rfl e6 ?_
  refine mw_bipush (v := 6) dX4_withInterest_14 (by decide) ?_
  obtain ⟨g9, e10, hf⟩ := ob hf
  obtain ⟨x11, h7, e8, hf⟩ := ob1 hf
  refine ml_callV (ci := 0) (mc' := 0) (ms' := 0) [vi (6 : Int32)] dX4_withInterest_16 mk_X0_number lk_RX4_126 im_X0_number se_X0_number (by decide) e10 rfl (Nat.le_of_ble_eq_true rfl) (Nat.le_of_ble_eq_true rfl) (t_X0_number E _ e8 isR_rfl) ?_
  refine mw_i2l dX4_withInterest_19 ?_
  refine mw_lmul dX4_withInterest_20 ?_
  refine mw_iload_n (x := v2) dX4_withInterest_21 rfl ?_
  refine mw_aload_n (x := q1) dX4_withInterest_22 rfl ?_
  obtain ⟨x12, e13, hf⟩ := ob hf
  refine ml_getI dX4_withInterest_23 fl_RX4_153 rfl e13 ?_
  refine mw_isub dX4_withInterest_26 ?_
  refine mw_i2l dX4_withInterest_27 ?_
  refine mw_lmul dX4_withInterest_28 ?_
  refine mw_ldc2 dX4_withInterest_29 kc_RX4_202 ?_
  obtain ⟨x14, e15, hf⟩ := ob hf
  refine ml_ldiv dX4_withInterest_32 e15 ?_
  refine mw_ladd dX4_withInterest_33 ?_
  obtain ⟨rfl, rfl⟩ := y1 hf
  exact mw_lreturn dX4_withInterest_34 rfl hk
def f_X4_dueOn_L8 : Nat → Nat → Int32 → Int64 → Int32 → Hp → Option ((Int64 × Hp))
  | 0, _, _, _, _, _ => none
  | n + 1, a0, v1, v2, v4, h =>
    (getI h (some a0) 4 14).bind fun x3 =>
    if x3 < v4 then
      some (v2, h)
    else
      (rc h (some a0) 4).bind fun g8 =>
      b1 (f_X4_listedAt g8 v4 h) fun x10 h6 =>
      b1 ((if x10 = none then
          some (v2, h6)
        else
          (rc h6 (some a0) 4).bind fun g19 =>
          b1 (f_X4_withInterest g19 x10 v1 h6) fun x21 h17 =>
          some ((v2 + x21), h17) : Option (Int64 × Hp))) fun w22 h23 =>
      f_X4_dueOn_L8 n a0 v1 w22 (v4 + 1) h23
def f_X4_dueOn (a0 : Nat) (v1 : Int32) (h : Hp) : Option (Int64 × Hp) :=
  (getI h (some a0) 4 13).bind fun x1 =>
  b1 (f_X4_dueOn_L8 fu a0 v1 0 x1 h) fun w25 h26 =>
  some (w25, h26)
set_option maxHeartbeats 4000000 in
theorem tl_X4_dueOn_8 (E : En) (d : Nat) {mc ms : Nat} {K : Option Vv → Hp → Prop} : ∀ (n : Nat) (a0 : Nat) (v1 : Int32) (v2 : Int64) (v4 : Int32) (h : Hp) (u2 : Int64) (hz : Hp), f_X4_dueOn_L8 n a0 v1 v2 v4 h = some (u2, hz) → MW E m_X4_dueOn (d + 3) mc ms 46 [none, none, some (vl u2), none, none, none] [] hz K → MW E m_X4_dueOn (d + 3) mc ms 8 [some (vq (some a0)), some (vi v1), some (vl v2), none, some (vi v4), none] [] h K := by
  intro n
  induction n with
  | zero => intro a0 v1 v2 v4 h u2 hz hf; exact nomatch (show none = some _ from hf)
  | succ n ih =>
    intro a0 v1 v2 v4 h u2 hz hf hX46
    rw [f_X4_dueOn_L8] at hf
    refine mw_iload (x := v4) dX4_dueOn_8 rfl ?_
    refine mw_aload_n (x := (some a0)) dX4_dueOn_10 rfl ?_
    obtain ⟨x3, e4, hf⟩ := ob hf
    refine ml_getI dX4_dueOn_11 fl_RX4_192 rfl e4 ?_
    refine mw_icmp_gt (tgt := 46) dX4_dueOn_14 rfl (fun c5 => ?_) (fun c5 => ?_)
    · rw [if_pos c5] at hf
      obtain ⟨rfl, rfl⟩ := y1 hf
      exact MW.sub (subL_n (subL_n (subL_s (subL_n (subL_n (subL_n subL_nil)))))) hX46
    · rw [if_neg c5] at hf
      refine mw_aload_n (x := (some a0)) dX4_dueOn_17 rfl ?_
      refine mw_iload (x := v4) dX4_dueOn_18 rfl ?_
      obtain ⟨g8, e9, hf⟩ := ob hf
      obtain ⟨x10, h6, e7, hf⟩ := ob1 hf
      refine ml_callV (ci := 4) (mc' := 0) (ms' := 0) [vi v4] dX4_dueOn_20 mk_X4_listedAt lk_RX4_195 im_X4_listedAt se_X4_listedAt (by decide) e9 rfl (Nat.le_of_ble_eq_true rfl) (Nat.le_of_ble_eq_true rfl) (t_X4_listedAt E _ e7 isR_rfl) ?_
      refine mw_astore dX4_dueOn_23 (by decide) rfl ?_
      refine mw_aload (x := x10) dX4_dueOn_25 rfl ?_
      obtain ⟨w22, h23, r24, hf⟩ := ob1 hf
      have J29 : MW E m_X4_dueOn (d + 3) mc ms 40 [some (vq (some a0)), some (vi v1), some (vl w22), none, some (vi v4), none] [] h23 K := by
        refine mw_iinc (x := v4) (v := v4 + 1) dX4_dueOn_40 rfl rfl (by decide) rfl ?_
        refine mw_goto (tgt := 8) dX4_dueOn_43 rfl ?_
        exact MW.sub (subL_s (subL_s (subL_s (subL_n (subL_s (subL_n subL_nil)))))) (ih _ _ _ _ _ _ _ hf hX46)
      refine mw_ifnull (tgt := 40) dX4_dueOn_27 rfl (fun c11 => ?_) (fun c11 => ?_)
      · rw [if_pos c11] at r24
        obtain ⟨rfl, rfl⟩ := y1 r24
        exact MW.sub (subL_s (subL_s (subL_s (subL_n (subL_s (subL_n subL_nil)))))) J29
      · rw [if_neg c11] at r24
        refine mw_lload_n (x := v2) dX4_dueOn_30 rfl ?_
        refine mw_aload_n (x := (some a0)) dX4_dueOn_31 rfl ?_
        refine mw_aload (x := x10) dX4_dueOn_32 rfl ?_
        refine mw_iload_n (x := v1) dX4_dueOn_34 rfl ?_
        obtain ⟨g19, e20, r24⟩ := ob r24
        obtain ⟨x21, h17, e18, r24⟩ := ob1 r24
        refine ml_callV (ci := 4) (mc' := 0) (ms' := 0) [vq x10, vi v1] dX4_dueOn_35 mk_X4_withInterest lk_RX4_204 im_X4_withInterest se_X4_withInterest (by decide) e20 rfl (Nat.le_of_ble_eq_true rfl) (Nat.le_of_ble_eq_true rfl) (t_X4_withInterest E _ e18 isR_rfl) ?_
        refine mw_ladd dX4_dueOn_38 ?_
        refine mw_lstore_n dX4_dueOn_39 (by decide) rfl ?_
        obtain ⟨rfl, rfl⟩ := y1 r24
        exact MW.sub (subL_s (subL_s (subL_s (subL_n (subL_s (subL_n subL_nil)))))) J29
set_option maxHeartbeats 4000000 in
theorem t_X4_dueOn (E : En) (d : Nat) {mc ms : Nat} {a0 : Nat} {v1 : Int32} {h h' : Hp} {r : Int64} {K : Option Vv → Hp → Prop} (hf : f_X4_dueOn a0 v1 h = some (r, h')) (hk : K (some (vl r)) h') : MC E m_X4_dueOn (d + 3) mc ms [vq (some a0), vi v1] h K := by
  unfold f_X4_dueOn at hf
  show MW E m_X4_dueOn (d + 3) mc ms 0 [some (vq (some a0)), some (vi v1), none, none, none, none] [] h K
  refine mw_lconst (v := 0) dX4_dueOn_0 (by decide) ?_
  refine mw_lstore_n dX4_dueOn_1 (by decide) rfl ?_
  refine mw_aload_n (x := (some a0)) dX4_dueOn_2 rfl ?_
  obtain ⟨x1, e2, hf⟩ := ob hf
  refine ml_getI dX4_dueOn_3 fl_RX4_199 rfl e2 ?_
  refine mw_istore dX4_dueOn_6 (by decide) rfl ?_
  obtain ⟨w25, h26, e27, hf⟩ := ob1 hf
  refine MW.sub (subL_s (subL_s (subL_s (subL_n (subL_s (subL_n subL_nil)))))) (tl_X4_dueOn_8 E d _ _ _ _ _ _ _ _ e27 ?_)
  refine mw_lload_n (x := w25) dX4_dueOn_46 rfl ?_
  obtain ⟨rfl, rfl⟩ := y1 hf
  exact mw_lreturn dX4_dueOn_47 rfl hk
def f_X4_findChain_L7 : Nat → Nat → Int32 → Int32 → Hp → Option ((Hp))
  | 0, _, _, _, _ => none
  | n + 1, a0, v1, v2, h =>
    (getI h (some a0) 4 12).bind fun x3 =>
    if x3 ≤ v2 then
      some h
    else
      (rc h (some a0) 4).bind fun g8 =>
      b1 (f_X4_listedAt g8 v2 h) fun x10 h6 =>
      Option.bind ((if x10 = none then
          some h6
        else
          (getI h6 x10 1 2).bind fun x17 =>
          if v1 < x17 then
            some h6
          else
            (putI h6 (some a0) 4 14 v2).bind fun h20 =>
            some h20 : Option (Hp))) fun h22 =>
      f_X4_findChain_L7 n a0 v1 (v2 + 1) h22
def f_X4_findChain_L71 : Nat → Nat → Int32 → Int32 → Int32 → Int32 → Hp → Option ((Hp) ⊕ (Hp))
  | 0, _, _, _, _, _, _ => none
  | n + 1, a0, v1, v2, v3, v4, h =>
    if v4 < (0 : Int32) then
      some (Sum.inr h)
    else
      (rc h (some a0) 4).bind fun g41 =>
      b1 (f_X4_listedAt g41 v4 h) fun x43 h39 =>
      if x43 = none then
        some (Sum.inr h39)
      else
        (getI h39 x43 1 2).bind fun x45 =>
        if v3 < (v2 - x45) then
          some (Sum.inr h39)
        else
          (getI h39 x43 1 2).bind fun x48 =>
          (getQ h39 (some a0) 4 0).bind fun x50 =>
          (rc h39 x50 0).bind fun g54 =>
          b1 (f_X0_number g54 (5 : Int32) h39) fun x56 h52 =>
          if (v1 - x48) ≤ x56 then
            (putI h52 (some a0) 4 13 v4).bind fun h58 =>
            (getI h58 x43 1 2).bind fun x60 =>
            (getQ h58 (some a0) 4 0).bind fun x62 =>
            (rc h58 x62 0).bind fun g66 =>
            b1 (f_X0_number g66 (3 : Int32) h58) fun x68 h64 =>
            f_X4_findChain_L71 n a0 v1 x60 x68 (v4 + (-1)) h64
          else
            some (Sum.inl h52)
def f_X4_findChain (a0 : Nat) (v1 : Int32) (h : Hp) : Option (Hp) :=
  (putI h (some a0) 4 14 (-1)).bind fun h1 =>
  (f_X4_findChain_L7 fu a0 v1 0 h1).bind fun h24 =>
  (getI h24 (some a0) 4 14).bind fun x25 =>
  (putI h24 (some a0) 4 13 (x25 + (1 : Int32))).bind fun h27 =>
  (getQ h27 (some a0) 4 0).bind fun x29 =>
  (rc h27 x29 0).bind fun g33 =>
  b1 (f_X0_number g33 (4 : Int32) h27) fun x35 h31 =>
  (getI h31 (some a0) 4 14).bind fun x36 =>
  (f_X4_findChain_L71 fu a0 v1 v1 x35 x36 h31).bind (Sum.elim (fun h69 => some h69) (fun h70 => some h70))
set_option maxHeartbeats 4000000 in
theorem tl_X4_findChain_7 (E : En) (d : Nat) {mc ms : Nat} {K : Option Vv → Hp → Prop} : ∀ (n : Nat) (a0 : Nat) (v1 : Int32) (v2 : Int32) (h : Hp) (hz : Hp), f_X4_findChain_L7 n a0 v1 v2 h = some hz → MW E m_X4_findChain (d + 2) mc ms 44 [some (vq (some a0)), some (vi v1), none, none, none, none] [] hz K → MW E m_X4_findChain (d + 2) mc ms 7 [some (vq (some a0)), some (vi v1), some (vi v2), none, none, none] [] h K := by
  intro n
  induction n with
  | zero => intro a0 v1 v2 h hz hf; exact nomatch (show none = some _ from hf)
  | succ n ih =>
    intro a0 v1 v2 h hz hf hX44
    rw [f_X4_findChain_L7] at hf
    refine mw_iload_n (x := v2) dX4_findChain_7 rfl ?_
    refine mw_aload_n (x := (some a0)) dX4_findChain_8 rfl ?_
    obtain ⟨x3, e4, hf⟩ := ob hf
    refine ml_getI dX4_findChain_9 fl_RX4_172 rfl e4 ?_
    refine mw_icmp_ge (tgt := 44) dX4_findChain_12 rfl (fun c5 => ?_) (fun c5 => ?_)
    · rw [if_pos c5] at hf
      obtain rfl := y0 hf
      exact MW.sub (subL_s (subL_s (subL_n (subL_n (subL_n (subL_n subL_nil)))))) hX44
    · rw [if_neg c5] at hf
      refine mw_aload_n (x := (some a0)) dX4_findChain_15 rfl ?_
      refine mw_iload_n (x := v2) dX4_findChain_16 rfl ?_
      obtain ⟨g8, e9, hf⟩ := ob hf
      obtain ⟨x10, h6, e7, hf⟩ := ob1 hf
      refine ml_callV (ci := 4) (mc' := 0) (ms' := 0) [vi v2] dX4_findChain_17 mk_X4_listedAt lk_RX4_195 im_X4_listedAt se_X4_listedAt (by decide) e9 rfl (Nat.le_of_ble_eq_true rfl) (Nat.le_of_ble_eq_true rfl) (t_X4_listedAt E _ e7 isR_rfl) ?_
      refine mw_astore_n dX4_findChain_20 (by decide) rfl ?_
      refine mw_aload_n (x := x10) dX4_findChain_21 rfl ?_
      obtain ⟨h22, r23, hf⟩ := ob hf
      have J75 : MW E m_X4_findChain (d + 2) mc ms 38 [some (vq (some a0)), some (vi v1), some (vi v2), none, none, none] [] h22 K := by
        refine mw_iinc (x := v2) (v := v2 + 1) dX4_findChain_38 rfl rfl (by decide) rfl ?_
        refine mw_goto (tgt := 7) dX4_findChain_41 rfl ?_
        exact MW.sub (subL_s (subL_s (subL_s (subL_n (subL_n (subL_n subL_nil)))))) (ih _ _ _ _ _ hf hX44)
      refine mw_ifnull (tgt := 38) dX4_findChain_22 rfl (fun c11 => ?_) (fun c11 => ?_)
      · rw [if_pos c11] at r23
        obtain rfl := y0 r23
        exact MW.sub (subL_s (subL_s (subL_s (subL_n (subL_n (subL_n subL_nil)))))) J75
      · rw [if_neg c11] at r23
        refine mw_aload_n (x := x10) dX4_findChain_25 rfl ?_
        obtain ⟨x17, e18, r23⟩ := ob r23
        refine ml_getI dX4_findChain_26 fl_RX4_153 rfl e18 ?_
        refine mw_iload_n (x := v1) dX4_findChain_29 rfl ?_
        refine mw_icmp_gt (tgt := 38) dX4_findChain_30 rfl (fun c19 => ?_) (fun c19 => ?_)
        · rw [if_pos c19] at r23
          obtain rfl := y0 r23
          exact MW.sub (subL_s (subL_s (subL_s (subL_n (subL_n (subL_n subL_nil)))))) J75
        · rw [if_neg c19] at r23
          refine mw_aload_n (x := (some a0)) dX4_findChain_33 rfl ?_
          refine mw_iload_n (x := v2) dX4_findChain_34 rfl ?_
          obtain ⟨h20, e21, r23⟩ := ob r23
          refine ml_putI dX4_findChain_35 fl_RX4_192 (Or.inl rfl) rfl rfl e21 ?_
          obtain rfl := y0 r23
          exact MW.sub (subL_s (subL_s (subL_s (subL_n (subL_n (subL_n subL_nil)))))) J75
set_option maxHeartbeats 4000000 in
theorem tl_X4_findChain_71 (E : En) (d : Nat) {mc ms : Nat} {K : Option Vv → Hp → Prop} : ∀ (n : Nat) (a0 : Nat) (v1 : Int32) (v2 : Int32) (v3 : Int32) (v4 : Int32) (h : Hp) (o : (Hp) ⊕ (Hp)), f_X4_findChain_L71 n a0 v1 v2 v3 v4 h = some o → (∀ (hz : Hp), o = Sum.inl hz → MW E m_X4_findChain (d + 2) mc ms 118 [none, none, none, none, none, none] [] hz K) → (∀ (hz : Hp), o = Sum.inr hz → MW E m_X4_findChain (d + 2) mc ms 148 [none, none, none, none, none, none] [] hz K) → MW E m_X4_findChain (d + 2) mc ms 71 [some (vq (some a0)), some (vi v1), some (vi v2), some (vi v3), some (vi v4), none] [] h K := by
  intro n
  induction n with
  | zero => intro a0 v1 v2 v3 v4 h o hf; exact nomatch (show none = some _ from hf)
  | succ n ih =>
    intro a0 v1 v2 v3 v4 h o hf hX118 hX148
    rw [f_X4_findChain_L71] at hf
    refine mw_iload (x := v4) dX4_findChain_71 rfl ?_
    refine mw_if_lt (tgt := 148) dX4_findChain_73 rfl (fun c38 => ?_) (fun c38 => ?_)
    · rw [if_pos c38] at hf
      obtain rfl := y0 hf
      exact MW.sub (subL_n (subL_n (subL_n (subL_n (subL_n (subL_n subL_nil)))))) (hX148 _ rfl)
    · rw [if_neg c38] at hf
      refine mw_aload_n (x := (some a0)) dX4_findChain_76 rfl ?_
      refine mw_iload (x := v4) dX4_findChain_77 rfl ?_
      obtain ⟨g41, e42, hf⟩ := ob hf
      obtain ⟨x43, h39, e40, hf⟩ := ob1 hf
      refine ml_callV (ci := 4) (mc' := 0) (ms' := 0) [vi v4] dX4_findChain_79 mk_X4_listedAt lk_RX4_195 im_X4_listedAt se_X4_listedAt (by decide) e42 rfl (Nat.le_of_ble_eq_true rfl) (Nat.le_of_ble_eq_true rfl) (t_X4_listedAt E _ e40 isR_rfl) ?_
      refine mw_astore dX4_findChain_82 (by decide) rfl ?_
      refine mw_aload (x := x43) dX4_findChain_84 rfl ?_
      refine mw_ifnull (tgt := 148) dX4_findChain_86 rfl (fun c44 => ?_) (fun c44 => ?_)
      · rw [if_pos c44] at hf
        obtain rfl := y0 hf
        exact MW.sub (subL_n (subL_n (subL_n (subL_n (subL_n (subL_n subL_nil)))))) (hX148 _ rfl)
      · rw [if_neg c44] at hf
        refine mw_iload_n (x := v2) dX4_findChain_89 rfl ?_
        refine mw_aload (x := x43) dX4_findChain_90 rfl ?_
        obtain ⟨x45, e46, hf⟩ := ob hf
        refine ml_getI dX4_findChain_92 fl_RX4_153 rfl e46 ?_
        refine mw_isub dX4_findChain_95 ?_
        refine mw_iload_n (x := v3) dX4_findChain_96 rfl ?_
        refine mw_icmp_gt (tgt := 148) dX4_findChain_97 rfl (fun c47 => ?_) (fun c47 => ?_)
        · rw [if_pos c47] at hf
          obtain rfl := y0 hf
          exact MW.sub (subL_n (subL_n (subL_n (subL_n (subL_n (subL_n subL_nil)))))) (hX148 _ rfl)
        · rw [if_neg c47] at hf
          refine mw_iload_n (x := v1) dX4_findChain_100 rfl ?_
          refine mw_aload (x := x43) dX4_findChain_101 rfl ?_
          obtain ⟨x48, e49, hf⟩ := ob hf
          refine ml_getI dX4_findChain_103 fl_RX4_153 rfl e49 ?_
          refine mw_isub dX4_findChain_106 ?_
          refine mw_aload_n (x := (some a0)) dX4_findChain_107 rfl ?_
          obtain ⟨x50, e51, hf⟩ := ob hf
          refine ml_getQ dX4_findChain_108 fl_RX4_12 rfl e51 ?_
          refine mw_iconst (v := 5) dX4_findChain_111 (by decide) ?_
          obtain ⟨g54, e55, hf⟩ := ob hf
          obtain ⟨x56, h52, e53, hf⟩ := ob1 hf
          refine ml_callV (ci := 0) (mc' := 0) (ms' := 0) [vi (5 : Int32)] dX4_findChain_112 mk_X0_number lk_RX4_126 im_X0_number se_X0_number (by decide) e55 rfl (Nat.le_of_ble_eq_true rfl) (Nat.le_of_ble_eq_true rfl) (t_X0_number E _ e53 isR_rfl) ?_
          refine mw_icmp_le (tgt := 121) dX4_findChain_115 rfl (fun c57 => ?_) (fun c57 => ?_)
          · rw [if_pos c57] at hf
            refine mw_aload_n (x := (some a0)) dX4_findChain_121 rfl ?_
            refine mw_iload (x := v4) dX4_findChain_122 rfl ?_
            obtain ⟨h58, e59, hf⟩ := ob hf
            refine ml_putI dX4_findChain_124 fl_RX4_199 (Or.inl rfl) rfl rfl e59 ?_
            refine mw_aload (x := x43) dX4_findChain_127 rfl ?_
            obtain ⟨x60, e61, hf⟩ := ob hf
            refine ml_getI dX4_findChain_129 fl_RX4_153 rfl e61 ?_
            refine mw_istore_n dX4_findChain_132 (by decide) rfl ?_
            refine mw_aload_n (x := (some a0)) dX4_findChain_133 rfl ?_
            obtain ⟨x62, e63, hf⟩ := ob hf
            refine ml_getQ dX4_findChain_134 fl_RX4_12 rfl e63 ?_
            refine mw_iconst (v := 3) dX4_findChain_137 (by decide) ?_
            obtain ⟨g66, e67, hf⟩ := ob hf
            obtain ⟨x68, h64, e65, hf⟩ := ob1 hf
            refine ml_callV (ci := 0) (mc' := 0) (ms' := 0) [vi (3 : Int32)] dX4_findChain_138 mk_X0_number lk_RX4_126 im_X0_number se_X0_number (by decide) e67 rfl (Nat.le_of_ble_eq_true rfl) (Nat.le_of_ble_eq_true rfl) (t_X0_number E _ e65 isR_rfl) ?_
            refine mw_istore_n dX4_findChain_141 (by decide) rfl ?_
            refine mw_iinc (x := v4) (v := v4 + (-1)) dX4_findChain_142 rfl rfl (by decide) rfl ?_
            refine mw_goto (tgt := 71) dX4_findChain_145 rfl ?_
            exact MW.sub (subL_s (subL_s (subL_s (subL_s (subL_s (subL_n subL_nil)))))) (ih _ _ _ _ _ _ _ hf hX118 hX148)
          · rw [if_neg c57] at hf
            obtain rfl := y0 hf
            exact MW.sub (subL_n (subL_n (subL_n (subL_n (subL_n (subL_n subL_nil)))))) (hX118 _ rfl)
set_option maxHeartbeats 4000000 in
theorem t_X4_findChain (E : En) (d : Nat) {mc ms : Nat} {a0 : Nat} {v1 : Int32} {h h' : Hp} {K : Option Vv → Hp → Prop} (hf : f_X4_findChain a0 v1 h = some h') (hk : K none h') : MC E m_X4_findChain (d + 2) mc ms [vq (some a0), vi v1] h K := by
  unfold f_X4_findChain at hf
  show MW E m_X4_findChain (d + 2) mc ms 0 [some (vq (some a0)), some (vi v1), none, none, none, none] [] h K
  refine mw_aload_n (x := (some a0)) dX4_findChain_0 rfl ?_
  refine mw_iconst (v := (-1)) dX4_findChain_1 (by decide) ?_
  obtain ⟨h1, e2, hf⟩ := ob hf
  refine ml_putI dX4_findChain_2 fl_RX4_192 (Or.inl rfl) rfl rfl e2 ?_
  refine mw_iconst (v := 0) dX4_findChain_5 (by decide) ?_
  refine mw_istore_n dX4_findChain_6 (by decide) rfl ?_
  obtain ⟨h24, e73, hf⟩ := ob hf
  refine MW.sub (subL_s (subL_s (subL_s (subL_n (subL_n (subL_n subL_nil)))))) (tl_X4_findChain_7 E d _ _ _ _ _ _ e73 ?_)
  refine mw_aload_n (x := (some a0)) dX4_findChain_44 rfl ?_
  refine mw_aload_n (x := (some a0)) dX4_findChain_45 rfl ?_
  obtain ⟨x25, e26, hf⟩ := ob hf
  refine ml_getI dX4_findChain_46 fl_RX4_192 rfl e26 ?_
  refine mw_iconst (v := 1) dX4_findChain_49 (by decide) ?_
  refine mw_iadd dX4_findChain_50 ?_
  obtain ⟨h27, e28, hf⟩ := ob hf
  refine ml_putI dX4_findChain_51 fl_RX4_199 (Or.inl rfl) rfl rfl e28 ?_
  refine mw_iload_n (x := v1) dX4_findChain_54 rfl ?_
  refine mw_istore_n dX4_findChain_55 (by decide) rfl ?_
  refine mw_aload_n (x := (some a0)) dX4_findChain_56 rfl ?_
  obtain ⟨x29, e30, hf⟩ := ob hf
  refine ml_getQ dX4_findChain_57 fl_RX4_12 rfl e30 ?_
  refine mw_iconst (v := 4) dX4_findChain_60 (by decide) ?_
  obtain ⟨g33, e34, hf⟩ := ob hf
  obtain ⟨x35, h31, e32, hf⟩ := ob1 hf
  refine ml_callV (ci := 0) (mc' := 0) (ms' := 0) [vi (4 : Int32)] dX4_findChain_61 mk_X0_number lk_RX4_126 im_X0_number se_X0_number (by decide) e34 rfl (Nat.le_of_ble_eq_true rfl) (Nat.le_of_ble_eq_true rfl) (t_X0_number E _ e32 isR_rfl) ?_
  refine mw_istore_n dX4_findChain_64 (by decide) rfl ?_
  refine mw_aload_n (x := (some a0)) dX4_findChain_65 rfl ?_
  obtain ⟨x36, e37, hf⟩ := ob hf
  refine ml_getI dX4_findChain_66 fl_RX4_192 rfl e37 ?_
  refine mw_istore dX4_findChain_69 (by decide) rfl ?_
  obtain ⟨o72, e71, hf⟩ := ob hf
  rcases o72 with h69 | h70
  · have HX : MW E m_X4_findChain (d + 2) mc ms 118 [none, none, none, none, none, none] [] h69 K := by
      refine mw_goto (tgt := 148) dX4_findChain_118 rfl ?_
      obtain rfl := y0 hf
      exact mw_return dX4_findChain_148 rfl hk
    exact MW.sub (subL_s (subL_s (subL_s (subL_s (subL_s (subL_n subL_nil)))))) (tl_X4_findChain_71 E d _ _ _ _ _ _ _ _ e71 (fun _ q => by cases q; exact HX) (fun _ q => by cases q))
  · have HX : MW E m_X4_findChain (d + 2) mc ms 148 [none, none, none, none, none, none] [] h70 K := by
      obtain rfl := y0 hf
      exact mw_return dX4_findChain_148 rfl hk
    exact MW.sub (subL_s (subL_s (subL_s (subL_s (subL_s (subL_n subL_nil)))))) (tl_X4_findChain_71 E d _ _ _ _ _ _ _ _ e71 (fun _ q => by cases q) (fun _ q => by cases q; exact HX))
def f_X4_init (a0 : Nat) (h : Hp) : Option (Hp) :=
  (rc h (some a0) 4).bind fun g1 =>
  (rc (nw h 0 0) (some h.1.length) 0).bind fun g5 =>
  (f_X0_init g5 (nw h 0 0)).bind fun h3 =>
  (putQ h3 (some a0) 4 0 (some h.1.length)).bind fun h7 =>
  (nln 624 624).bind fun n9 =>
  (putQ (nw h7 10 n9) (some a0) 4 4 (some h7.1.length)).bind fun h11 =>
  (nln 104 104).bind fun n13 =>
  (putQ (nw h11 10 n13) (some a0) 4 5 (some h11.1.length)).bind fun h15 =>
  (nln 104 104).bind fun n17 =>
  (putQ (nw h15 10 n17) (some a0) 4 6 (some h15.1.length)).bind fun h19 =>
  (nln 104 104).bind fun n21 =>
  (putQ (nw h19 10 n21) (some a0) 4 7 (some h19.1.length)).bind fun h23 =>
  (nln 80 80).bind fun n25 =>
  (putQ (nw h23 10 n25) (some a0) 4 8 (some h23.1.length)).bind fun h27 =>
  (nln 250 250).bind fun n29 =>
  (putQ (nw h27 14 n29) (some a0) 4 11 (some h27.1.length)).bind fun h31 =>
  some h31
set_option maxHeartbeats 4000000 in
theorem t_X4_init (E : En) (d : Nat) {a0 : Nat} {h h' : Hp} {K : Option Vv → Hp → Prop} (hf : f_X4_init a0 h = some h') (hk : K none h') : MC E m_X4_init (d + 2) 10 1289 [vq (some a0)] h K := by
  unfold f_X4_init at hf
  show MW E m_X4_init (d + 2) 10 1289 0 [some (vq (some a0))] [] h K
  refine mw_aload_n (x := (some a0)) dX4_init_0 rfl ?_
  obtain ⟨g1, e2, hf⟩ := ob hf
  refine ml_objInit dX4_init_1 lk_RX4_3 oi_im oi_cd e2 (Nat.le_of_ble_eq_true rfl) ?_
  refine mw_aload_n (x := (some a0)) dX4_init_4 rfl ?_
  refine mw_new (ci := 0) (mc := 9) (ms := 1283) dX4_init_5 (by decide) cl_RX4_9 it_0 in_0 ?_
  refine mw_dupq dX4_init_8 ?_
  obtain ⟨g5, e6, hf⟩ := ob hf
  obtain ⟨h3, e4, hf⟩ := ob hf
  refine ml_callIN (mc := 6) (ms := 1266) (mc' := 3) (ms' := 17) [] dX4_init_9 mk_X0_init rfl lk_RX4_11 im_X0_init rfl e6 rfl (Nat.le_of_ble_eq_true rfl) (Nat.le_of_ble_eq_true rfl) (t_X0_init E _ e4 isR_rfl) ?_
  obtain ⟨h7, e8, hf⟩ := ob hf
  refine ml_putQ dX4_init_12 fl_RX4_12 (Or.inl rfl) rfl (Or.inl ⟨_, rfl⟩) e8 ?_
  refine mw_aload_n (x := (some a0)) dX4_init_15 rfl ?_
  refine mw_sipush (v := 624) dX4_init_16 (by decide) ?_
  obtain ⟨n9, e10, hf⟩ := ob hf
  refine ml_newa (kd := 10) (most := 624) (mc := 5) (ms := 642) dX4_init_19 rfl (by decide) ac_int (by decide) e10 ?_
  obtain ⟨h11, e12, hf⟩ := ob hf
  refine ml_putQ dX4_init_21 fl_RX4_18 (Or.inr ⟨rfl, rfl, rfl⟩) rfl (Or.inr ⟨_, rfl⟩) e12 ?_
  refine mw_aload_n (x := (some a0)) dX4_init_24 rfl ?_
  refine mw_bipush (v := 104) dX4_init_25 (by decide) ?_
  obtain ⟨n13, e14, hf⟩ := ob hf
  refine ml_newa (kd := 10) (most := 104) (mc := 4) (ms := 538) dX4_init_27 rfl (by decide) ac_int (by decide) e14 ?_
  obtain ⟨h15, e16, hf⟩ := ob hf
  refine ml_putQ dX4_init_29 fl_RX4_22 (Or.inr ⟨rfl, rfl, rfl⟩) rfl (Or.inr ⟨_, rfl⟩) e16 ?_
  refine mw_aload_n (x := (some a0)) dX4_init_32 rfl ?_
  refine mw_bipush (v := 104) dX4_init_33 (by decide) ?_
  obtain ⟨n17, e18, hf⟩ := ob hf
  refine ml_newa (kd := 10) (most := 104) (mc := 3) (ms := 434) dX4_init_35 rfl (by decide) ac_int (by decide) e18 ?_
  obtain ⟨h19, e20, hf⟩ := ob hf
  refine ml_putQ dX4_init_37 fl_RX4_25 (Or.inr ⟨rfl, rfl, rfl⟩) rfl (Or.inr ⟨_, rfl⟩) e20 ?_
  refine mw_aload_n (x := (some a0)) dX4_init_40 rfl ?_
  refine mw_bipush (v := 104) dX4_init_41 (by decide) ?_
  obtain ⟨n21, e22, hf⟩ := ob hf
  refine ml_newa (kd := 10) (most := 104) (mc := 2) (ms := 330) dX4_init_43 rfl (by decide) ac_int (by decide) e22 ?_
  obtain ⟨h23, e24, hf⟩ := ob hf
  refine ml_putQ dX4_init_45 fl_RX4_28 (Or.inr ⟨rfl, rfl, rfl⟩) rfl (Or.inr ⟨_, rfl⟩) e24 ?_
  refine mw_aload_n (x := (some a0)) dX4_init_48 rfl ?_
  refine mw_bipush (v := 80) dX4_init_49 (by decide) ?_
  obtain ⟨n25, e26, hf⟩ := ob hf
  refine ml_newa (kd := 10) (most := 80) (mc := 1) (ms := 250) dX4_init_51 rfl (by decide) ac_int (by decide) e26 ?_
  obtain ⟨h27, e28, hf⟩ := ob hf
  refine ml_putQ dX4_init_53 fl_RX4_31 (Or.inr ⟨rfl, rfl, rfl⟩) rfl (Or.inr ⟨_, rfl⟩) e28 ?_
  refine mw_aload_n (x := (some a0)) dX4_init_56 rfl ?_
  refine mw_sipush (v := 250) dX4_init_57 (by decide) ?_
  obtain ⟨n29, e30, hf⟩ := ob hf
  refine ml_anew (kd := 14) (most := 250) (mc := 0) (ms := 0) dX4_init_60 (by decide) (by decide) cl_RX4_34 (by decide) e30 ?_
  obtain ⟨h31, e32, hf⟩ := ob hf
  refine ml_putQ dX4_init_63 fl_RX4_36 (Or.inr ⟨rfl, rfl, rfl⟩) rfl (Or.inr ⟨_, rfl⟩) e32 ?_
  obtain rfl := y0 hf
  exact mw_return dX4_init_66 rfl hk
def f_X4_insert_L25 : Nat → Nat → Option Nat → Int32 → Hp → Option ((Int32 × Hp) ⊕ (Int32 × Hp))
  | 0, _, _, _, _ => none
  | n + 1, a0, q1, v2, h =>
    if v2 ≤ (0 : Int32) then
      some (Sum.inr (v2, h))
    else
      (getQ h (some a0) 4 11).bind fun x14 =>
      (rdQ h x14 14 (v2 - (1 : Int32))).bind fun x16 =>
      if x16 = none then
        some (Sum.inr (v2, h))
      else
        (getI h x16 1 2).bind fun x19 =>
        (getI h q1 1 2).bind fun x21 =>
        if x21 < x19 then
          (getQ h (some a0) 4 11).bind fun x24 =>
          (wrQ h x24 14 v2 x16).bind fun h26 =>
          f_X4_insert_L25 n a0 q1 (v2 + (-1)) h26
        else
          some (Sum.inl (v2, h))
def f_X4_insert (a0 : Nat) (q1 : Option Nat) (h : Hp) : Option (Hp) :=
  (getI h (some a0) 4 12).bind fun x1 =>
  if x1 < (0 : Int32) then
    some h
  else
    (getI h (some a0) 4 12).bind fun x4 =>
    (getQ h (some a0) 4 11).bind fun x6 =>
    (aln h x6 14).bind fun x8 =>
    if x4 < x8 then
      (getI h (some a0) 4 12).bind fun x11 =>
      (f_X4_insert_L25 fu a0 q1 x11 h).bind (Sum.elim (c1 fun w28 h29 => (getQ h29 (some a0) 4 11).bind fun x30 =>
        (wrQ h29 x30 14 w28 q1).bind fun h32 =>
        (getI h32 (some a0) 4 12).bind fun x34 =>
        (putI h32 (some a0) 4 12 (x34 + (1 : Int32))).bind fun h36 =>
        some h36) (c1 fun w38 h39 => (getQ h39 (some a0) 4 11).bind fun x40 =>
        (wrQ h39 x40 14 w38 q1).bind fun h42 =>
        (getI h42 (some a0) 4 12).bind fun x44 =>
        (putI h42 (some a0) 4 12 (x44 + (1 : Int32))).bind fun h46 =>
        some h46))
    else
      some h
set_option maxHeartbeats 4000000 in
theorem tl_X4_insert_25 (E : En) (d : Nat) {mc ms : Nat} {K : Option Vv → Hp → Prop} : ∀ (n : Nat) (a0 : Nat) (q1 : Option Nat) (v2 : Int32) (h : Hp) (o : (Int32 × Hp) ⊕ (Int32 × Hp)), f_X4_insert_L25 n a0 q1 v2 h = some o → (∀ (u2 : Int32) (hz : Hp), o = Sum.inl (u2, hz) → MW E m_X4_insert (d + 0) mc ms 53 [some (vq (some a0)), some (vq q1), some (vi u2), none] [] hz K) → (∀ (u2 : Int32) (hz : Hp), o = Sum.inr (u2, hz) → MW E m_X4_insert (d + 0) mc ms 69 [some (vq (some a0)), some (vq q1), some (vi u2), none] [] hz K) → MW E m_X4_insert (d + 0) mc ms 25 [some (vq (some a0)), some (vq q1), some (vi v2), none] [] h K := by
  intro n
  induction n with
  | zero => intro a0 q1 v2 h o hf; exact nomatch (show none = some _ from hf)
  | succ n ih =>
    intro a0 q1 v2 h o hf hX53 hX69
    rw [f_X4_insert_L25] at hf
    refine mw_iload_n (x := v2) dX4_insert_25 rfl ?_
    refine mw_if_le (tgt := 69) dX4_insert_26 rfl (fun c13 => ?_) (fun c13 => ?_)
    · rw [if_pos c13] at hf
      obtain rfl := y0 hf
      exact MW.sub (subL_s (subL_s (subL_s (subL_n subL_nil)))) (hX69 _ _ rfl)
    · rw [if_neg c13] at hf
      refine mw_aload_n (x := (some a0)) dX4_insert_29 rfl ?_
      obtain ⟨x14, e15, hf⟩ := ob hf
      refine ml_getQ dX4_insert_30 fl_RX4_36 rfl e15 ?_
      refine mw_iload_n (x := v2) dX4_insert_33 rfl ?_
      refine mw_iconst (v := 1) dX4_insert_34 (by decide) ?_
      refine mw_isub dX4_insert_35 ?_
      obtain ⟨x16, e17, hf⟩ := ob hf
      refine ml_aald dX4_insert_36 e17 (by decide) (by decide) ?_
      refine mw_astore_n dX4_insert_37 (by decide) rfl ?_
      refine mw_aload_n (x := x16) dX4_insert_38 rfl ?_
      refine mw_ifnull (tgt := 69) dX4_insert_39 rfl (fun c18 => ?_) (fun c18 => ?_)
      · rw [if_pos c18] at hf
        obtain rfl := y0 hf
        exact MW.sub (subL_s (subL_s (subL_s (subL_n subL_nil)))) (hX69 _ _ rfl)
      · rw [if_neg c18] at hf
        refine mw_aload_n (x := x16) dX4_insert_42 rfl ?_
        obtain ⟨x19, e20, hf⟩ := ob hf
        refine ml_getI dX4_insert_43 fl_RX4_153 rfl e20 ?_
        refine mw_aload_n (x := q1) dX4_insert_46 rfl ?_
        obtain ⟨x21, e22, hf⟩ := ob hf
        refine ml_getI dX4_insert_47 fl_RX4_153 rfl e22 ?_
        refine mw_icmp_gt (tgt := 56) dX4_insert_50 rfl (fun c23 => ?_) (fun c23 => ?_)
        · rw [if_pos c23] at hf
          refine mw_aload_n (x := (some a0)) dX4_insert_56 rfl ?_
          obtain ⟨x24, e25, hf⟩ := ob hf
          refine ml_getQ dX4_insert_57 fl_RX4_36 rfl e25 ?_
          refine mw_iload_n (x := v2) dX4_insert_60 rfl ?_
          refine mw_aload_n (x := x16) dX4_insert_61 rfl ?_
          obtain ⟨h26, e27, hf⟩ := ob hf
          refine ml_aast dX4_insert_62 e27 (by decide) (by decide) ?_
          refine mw_iinc (x := v2) (v := v2 + (-1)) dX4_insert_63 rfl rfl (by decide) rfl ?_
          refine mw_goto (tgt := 25) dX4_insert_66 rfl ?_
          exact MW.sub (subL_s (subL_s (subL_s (subL_n subL_nil)))) (ih _ _ _ _ _ hf hX53 hX69)
        · rw [if_neg c23] at hf
          obtain rfl := y0 hf
          exact MW.sub (subL_s (subL_s (subL_s (subL_n subL_nil)))) (hX53 _ _ rfl)
set_option maxHeartbeats 4000000 in
theorem t_X4_insert (E : En) (d : Nat) {mc ms : Nat} {a0 : Nat} {q1 : Option Nat} {h h' : Hp} {K : Option Vv → Hp → Prop} (hf : f_X4_insert a0 q1 h = some h') (hk : K none h') : MC E m_X4_insert (d + 0) mc ms [vq (some a0), vq q1] h K := by
  unfold f_X4_insert at hf
  show MW E m_X4_insert (d + 0) mc ms 0 [some (vq (some a0)), some (vq q1), none, none] [] h K
  refine mw_aload_n (x := (some a0)) dX4_insert_0 rfl ?_
  obtain ⟨x1, e2, hf⟩ := ob hf
  refine ml_getI dX4_insert_1 fl_RX4_172 rfl e2 ?_
  refine mw_if_lt (tgt := 19) dX4_insert_4 rfl (fun c3 => ?_) (fun c3 => ?_)
  · rw [if_pos c3] at hf
    obtain rfl := y0 hf
    exact mw_return dX4_insert_19 rfl hk
  · rw [if_neg c3] at hf
    refine mw_aload_n (x := (some a0)) dX4_insert_7 rfl ?_
    obtain ⟨x4, e5, hf⟩ := ob hf
    refine ml_getI dX4_insert_8 fl_RX4_172 rfl e5 ?_
    refine mw_aload_n (x := (some a0)) dX4_insert_11 rfl ?_
    obtain ⟨x6, e7, hf⟩ := ob hf
    refine ml_getQ dX4_insert_12 fl_RX4_36 rfl e7 ?_
    obtain ⟨x8, e9, hf⟩ := ob hf
    refine ml_alen dX4_insert_15 e9 (by decide) (by decide) ?_
    refine mw_icmp_lt (tgt := 20) dX4_insert_16 rfl (fun c10 => ?_) (fun c10 => ?_)
    · rw [if_pos c10] at hf
      refine mw_aload_n (x := (some a0)) dX4_insert_20 rfl ?_
      obtain ⟨x11, e12, hf⟩ := ob hf
      refine ml_getI dX4_insert_21 fl_RX4_172 rfl e12 ?_
      refine mw_istore_n dX4_insert_24 (by decide) rfl ?_
      obtain ⟨o49, e48, hf⟩ := ob hf
      rcases o49 with ⟨w28, h29⟩ | ⟨w38, h39⟩
      · have HX : MW E m_X4_insert (d + 0) mc ms 53 [some (vq (some a0)), some (vq q1), some (vi w28), none] [] h29 K := by
          refine mw_goto (tgt := 69) dX4_insert_53 rfl ?_
          refine mw_aload_n (x := (some a0)) dX4_insert_69 rfl ?_
          obtain ⟨x30, e31, hf⟩ := ob hf
          refine ml_getQ dX4_insert_70 fl_RX4_36 rfl e31 ?_
          refine mw_iload_n (x := w28) dX4_insert_73 rfl ?_
          refine mw_aload_n (x := q1) dX4_insert_74 rfl ?_
          obtain ⟨h32, e33, hf⟩ := ob hf
          refine ml_aast dX4_insert_75 e33 (by decide) (by decide) ?_
          refine mw_aload_n (x := (some a0)) dX4_insert_76 rfl ?_
          refine mw_dupq dX4_insert_77 ?_
          obtain ⟨x34, e35, hf⟩ := ob hf
          refine ml_getI dX4_insert_78 fl_RX4_172 rfl e35 ?_
          refine mw_iconst (v := 1) dX4_insert_81 (by decide) ?_
          refine mw_iadd dX4_insert_82 ?_
          obtain ⟨h36, e37, hf⟩ := ob hf
          refine ml_putI dX4_insert_83 fl_RX4_172 (Or.inl rfl) rfl rfl e37 ?_
          obtain rfl := y0 hf
          exact mw_return dX4_insert_86 rfl hk
        exact MW.sub (subL_s (subL_s (subL_s (subL_n subL_nil)))) (tl_X4_insert_25 E d _ _ _ _ _ _ e48 (fun _ _ q => by cases q; exact HX) (fun _ _ q => by cases q))
      · have HX : MW E m_X4_insert (d + 0) mc ms 69 [some (vq (some a0)), some (vq q1), some (vi w38), none] [] h39 K := by
          refine mw_aload_n (x := (some a0)) dX4_insert_69 rfl ?_
          obtain ⟨x40, e41, hf⟩ := ob hf
          refine ml_getQ dX4_insert_70 fl_RX4_36 rfl e41 ?_
          refine mw_iload_n (x := w38) dX4_insert_73 rfl ?_
          refine mw_aload_n (x := q1) dX4_insert_74 rfl ?_
          obtain ⟨h42, e43, hf⟩ := ob hf
          refine ml_aast dX4_insert_75 e43 (by decide) (by decide) ?_
          refine mw_aload_n (x := (some a0)) dX4_insert_76 rfl ?_
          refine mw_dupq dX4_insert_77 ?_
          obtain ⟨x44, e45, hf⟩ := ob hf
          refine ml_getI dX4_insert_78 fl_RX4_172 rfl e45 ?_
          refine mw_iconst (v := 1) dX4_insert_81 (by decide) ?_
          refine mw_iadd dX4_insert_82 ?_
          obtain ⟨h46, e47, hf⟩ := ob hf
          refine ml_putI dX4_insert_83 fl_RX4_172 (Or.inl rfl) rfl rfl e47 ?_
          obtain rfl := y0 hf
          exact mw_return dX4_insert_86 rfl hk
        exact MW.sub (subL_s (subL_s (subL_s (subL_n subL_nil)))) (tl_X4_insert_25 E d _ _ _ _ _ _ e48 (fun _ _ q => by cases q) (fun _ _ q => by cases q; exact HX))
    · rw [if_neg c10] at hf
      obtain rfl := y0 hf
      exact mw_return dX4_insert_19 rfl hk
def f_X4_noteClaim_L5 : Nat → Nat → Int32 → Int32 → Hp → Option ((Hp))
  | 0, _, _, _, _ => none
  | n + 1, a0, v1, v2, h =>
    (getI h (some a0) 4 14).bind fun x3 =>
    if x3 < v2 then
      some h
    else
      (rc h (some a0) 4).bind fun g8 =>
      b1 (f_X4_listedAt g8 v2 h) fun x10 h6 =>
      Option.bind ((if x10 = none then
          some h6
        else
          (getI h6 x10 1 11).bind fun x22 =>
          if x22 = ((-1) : Int32) then
            (putI h6 x10 1 11 v1).bind fun h25 =>
            some h25
          else
            (getI h6 x10 1 11).bind fun x27 =>
            if x27 ≤ v1 then
              some h6
            else
              (putI h6 x10 1 11 v1).bind fun h30 =>
              some h30 : Option (Hp))) fun h32 =>
      f_X4_noteClaim_L5 n a0 v1 (v2 + 1) h32
def f_X4_noteClaim (a0 : Nat) (v1 : Int32) (h : Hp) : Option (Hp) :=
  (getI h (some a0) 4 13).bind fun x1 =>
  (f_X4_noteClaim_L5 fu a0 v1 x1 h).bind fun h34 =>
  some h34
set_option maxHeartbeats 4000000 in
theorem tl_X4_noteClaim_5 (E : En) (d : Nat) {mc ms : Nat} {K : Option Vv → Hp → Prop} : ∀ (n : Nat) (a0 : Nat) (v1 : Int32) (v2 : Int32) (h : Hp) (hz : Hp), f_X4_noteClaim_L5 n a0 v1 v2 h = some hz → MW E m_X4_noteClaim (d + 1) mc ms 50 [none, none, none, none] [] hz K → MW E m_X4_noteClaim (d + 1) mc ms 5 [some (vq (some a0)), some (vi v1), some (vi v2), none] [] h K := by
  intro n
  induction n with
  | zero => intro a0 v1 v2 h hz hf; exact nomatch (show none = some _ from hf)
  | succ n ih =>
    intro a0 v1 v2 h hz hf hX50
    rw [f_X4_noteClaim_L5] at hf
    refine mw_iload_n (x := v2) dX4_noteClaim_5 rfl ?_
    refine mw_aload_n (x := (some a0)) dX4_noteClaim_6 rfl ?_
    obtain ⟨x3, e4, hf⟩ := ob hf
    refine ml_getI dX4_noteClaim_7 fl_RX4_192 rfl e4 ?_
    refine mw_icmp_gt (tgt := 50) dX4_noteClaim_10 rfl (fun c5 => ?_) (fun c5 => ?_)
    · rw [if_pos c5] at hf
      obtain rfl := y0 hf
      exact MW.sub (subL_n (subL_n (subL_n (subL_n subL_nil)))) hX50
    · rw [if_neg c5] at hf
      refine mw_aload_n (x := (some a0)) dX4_noteClaim_13 rfl ?_
      refine mw_iload_n (x := v2) dX4_noteClaim_14 rfl ?_
      obtain ⟨g8, e9, hf⟩ := ob hf
      obtain ⟨x10, h6, e7, hf⟩ := ob1 hf
      refine ml_callV (ci := 4) (mc' := 0) (ms' := 0) [vi v2] dX4_noteClaim_15 mk_X4_listedAt lk_RX4_195 im_X4_listedAt se_X4_listedAt (by decide) e9 rfl (Nat.le_of_ble_eq_true rfl) (Nat.le_of_ble_eq_true rfl) (t_X4_listedAt E _ e7 isR_rfl) ?_
      refine mw_astore_n dX4_noteClaim_18 (by decide) rfl ?_
      refine mw_aload_n (x := x10) dX4_noteClaim_19 rfl ?_
      obtain ⟨h32, r33, hf⟩ := ob hf
      have J37 : MW E m_X4_noteClaim (d + 1) mc ms 44 [some (vq (some a0)), some (vi v1), some (vi v2), none] [] h32 K := by
        refine mw_iinc (x := v2) (v := v2 + 1) dX4_noteClaim_44 rfl rfl (by decide) rfl ?_
        refine mw_goto (tgt := 5) dX4_noteClaim_47 rfl ?_
        exact MW.sub (subL_s (subL_s (subL_s (subL_n subL_nil)))) (ih _ _ _ _ _ hf hX50)
      refine mw_ifnull (tgt := 44) dX4_noteClaim_20 rfl (fun c11 => ?_) (fun c11 => ?_)
      · rw [if_pos c11] at r33
        obtain rfl := y0 r33
        exact MW.sub (subL_s (subL_s (subL_s (subL_n subL_nil)))) J37
      · rw [if_neg c11] at r33
        refine mw_aload_n (x := x10) dX4_noteClaim_23 rfl ?_
        obtain ⟨x22, e23, r33⟩ := ob r33
        refine ml_getI dX4_noteClaim_24 fl_RX4_185 rfl e23 ?_
        refine mw_iconst (v := (-1)) dX4_noteClaim_27 (by decide) ?_
        refine mw_icmp_eq (tgt := 39) dX4_noteClaim_28 rfl (fun c24 => ?_) (fun c24 => ?_)
        · rw [if_pos c24] at r33
          refine mw_aload_n (x := x10) dX4_noteClaim_39 rfl ?_
          refine mw_iload_n (x := v1) dX4_noteClaim_40 rfl ?_
          obtain ⟨h25, e26, r33⟩ := ob r33
          refine ml_putI dX4_noteClaim_41 fl_RX4_185 (Or.inl rfl) rfl rfl e26 ?_
          obtain rfl := y0 r33
          exact MW.sub (subL_s (subL_s (subL_s (subL_n subL_nil)))) J37
        · rw [if_neg c24] at r33
          refine mw_iload_n (x := v1) dX4_noteClaim_31 rfl ?_
          refine mw_aload_n (x := x10) dX4_noteClaim_32 rfl ?_
          obtain ⟨x27, e28, r33⟩ := ob r33
          refine ml_getI dX4_noteClaim_33 fl_RX4_185 rfl e28 ?_
          refine mw_icmp_ge (tgt := 44) dX4_noteClaim_36 rfl (fun c29 => ?_) (fun c29 => ?_)
          · rw [if_pos c29] at r33
            obtain rfl := y0 r33
            exact MW.sub (subL_s (subL_s (subL_s (subL_n subL_nil)))) J37
          · rw [if_neg c29] at r33
            refine mw_aload_n (x := x10) dX4_noteClaim_39 rfl ?_
            refine mw_iload_n (x := v1) dX4_noteClaim_40 rfl ?_
            obtain ⟨h30, e31, r33⟩ := ob r33
            refine ml_putI dX4_noteClaim_41 fl_RX4_185 (Or.inl rfl) rfl rfl e31 ?_
            obtain rfl := y0 r33
            exact MW.sub (subL_s (subL_s (subL_s (subL_n subL_nil)))) J37
set_option maxHeartbeats 4000000 in
theorem t_X4_noteClaim (E : En) (d : Nat) {mc ms : Nat} {a0 : Nat} {v1 : Int32} {h h' : Hp} {K : Option Vv → Hp → Prop} (hf : f_X4_noteClaim a0 v1 h = some h') (hk : K none h') : MC E m_X4_noteClaim (d + 1) mc ms [vq (some a0), vi v1] h K := by
  unfold f_X4_noteClaim at hf
  show MW E m_X4_noteClaim (d + 1) mc ms 0 [some (vq (some a0)), some (vi v1), none, none] [] h K
  refine mw_aload_n (x := (some a0)) dX4_noteClaim_0 rfl ?_
  obtain ⟨x1, e2, hf⟩ := ob hf
  refine ml_getI dX4_noteClaim_1 fl_RX4_199 rfl e2 ?_
  refine mw_istore_n dX4_noteClaim_4 (by decide) rfl ?_
  obtain ⟨h34, e35, hf⟩ := ob hf
  refine MW.sub (subL_s (subL_s (subL_s (subL_n subL_nil)))) (tl_X4_noteClaim_5 E d _ _ _ _ _ _ e35 ?_)
  obtain rfl := y0 hf
  exact mw_return dX4_noteClaim_50 rfl hk
def f_X4_joinClaims_L5 : Nat → Nat → Int32 → Option Nat → Hp → Option ((Hp))
  | 0, _, _, _, _ => none
  | n + 1, a0, v1, q2, h =>
    if q2 = none then
      some h
    else
      (getI h q2 1 1).bind fun x4 =>
      Option.bind ((if x4 = (5 : Int32) then
          (rc h q2 1).bind fun g27 =>
          b1 (f_X1_countsAt g27 v1 h) fun x29 h25 =>
          if x29 = (0 : Int32) then
            some h25
          else
            (getI h25 q2 1 2).bind fun x31 =>
            (rc h25 (some a0) 4).bind fun g35 =>
            (f_X4_findChain g35 x31 h25).bind fun h33 =>
            (getI h33 q2 1 2).bind fun x37 =>
            (rc h33 (some a0) 4).bind fun g41 =>
            (f_X4_noteClaim g41 x37 h33).bind fun h39 =>
            some h39
        else
          some h : Option (Hp))) fun h43 =>
      (getQ h43 q2 1 8).bind fun x45 =>
      f_X4_joinClaims_L5 n a0 v1 x45 h43
def f_X4_joinClaims_L61 : Nat → Nat → Int32 → Hp → Option ((Hp))
  | 0, _, _, _ => none
  | n + 1, a0, v2, h =>
    (getI h (some a0) 4 12).bind fun x52 =>
    if x52 ≤ v2 then
      some h
    else
      (rc h (some a0) 4).bind fun g57 =>
      b1 (f_X4_listedAt g57 v2 h) fun x59 h55 =>
      Option.bind ((if x59 = none then
          some h55
        else
          (getI h55 x59 1 11).bind fun x81 =>
          if x81 = ((-1) : Int32) then
            some h55
          else
            (getJ h55 (some a0) 4 15).bind fun x84 =>
            (getI h55 x59 1 11).bind fun x86 =>
            (rc h55 (some a0) 4).bind fun g90 =>
            b1 (f_X4_withInterest g90 x59 x86 h55) fun x92 h88 =>
            (putJ h88 (some a0) 4 15 (x84 + x92)).bind fun h93 =>
            (getI h93 (some a0) 4 16).bind fun x95 =>
            (getI h93 x59 1 10).bind fun x97 =>
            (putI h93 (some a0) 4 16 (x95 ||| x97)).bind fun h99 =>
            some h99 : Option (Hp))) fun h101 =>
      f_X4_joinClaims_L61 n a0 (v2 + 1) h101
def f_X4_joinClaims (a0 : Nat) (v1 : Int32) (h : Hp) : Option (Hp) :=
  (getQ h (some a0) 4 1).bind fun x1 =>
  (f_X4_joinClaims_L5 fu a0 v1 x1 h).bind fun h47 =>
  (putJ h47 (some a0) 4 15 0).bind fun h48 =>
  (putI h48 (some a0) 4 16 0).bind fun h50 =>
  (f_X4_joinClaims_L61 fu a0 0 h50).bind fun h103 =>
  some h103
set_option maxHeartbeats 4000000 in
theorem tl_X4_joinClaims_5 (E : En) (d : Nat) {mc ms : Nat} {K : Option Vv → Hp → Prop} : ∀ (n : Nat) (a0 : Nat) (v1 : Int32) (q2 : Option Nat) (h : Hp) (hz : Hp), f_X4_joinClaims_L5 n a0 v1 q2 h = some hz → MW E m_X4_joinClaims (d + 3) mc ms 49 [some (vq (some a0)), none, none, none] [] hz K → MW E m_X4_joinClaims (d + 3) mc ms 5 [some (vq (some a0)), some (vi v1), some (vq q2), none] [] h K := by
  intro n
  induction n with
  | zero => intro a0 v1 q2 h hz hf; exact nomatch (show none = some _ from hf)
  | succ n ih =>
    intro a0 v1 q2 h hz hf hX49
    rw [f_X4_joinClaims_L5] at hf
    refine mw_aload_n (x := q2) dX4_joinClaims_5 rfl ?_
    refine mw_ifnull (tgt := 49) dX4_joinClaims_6 rfl (fun c3 => ?_) (fun c3 => ?_)
    · rw [if_pos c3] at hf
      obtain rfl := y0 hf
      exact MW.sub (subL_s (subL_n (subL_n (subL_n subL_nil)))) hX49
    · rw [if_neg c3] at hf
      refine mw_aload_n (x := q2) dX4_joinClaims_9 rfl ?_
      obtain ⟨x4, e5, hf⟩ := ob hf
      refine ml_getI dX4_joinClaims_10 fl_RX4_147 rfl e5 ?_
      refine mw_iconst (v := 5) dX4_joinClaims_13 (by decide) ?_
      obtain ⟨h43, r44, hf⟩ := ob hf
      have J108 : MW E m_X4_joinClaims (d + 3) mc ms 41 [some (vq (some a0)), some (vi v1), some (vq q2), none] [] h43 K := by
        refine mw_aload_n (x := q2) dX4_joinClaims_41 rfl ?_
        obtain ⟨x45, e46, hf⟩ := ob hf
        refine ml_getQ dX4_joinClaims_42 fl_RX4_163 rfl e46 ?_
        refine mw_astore_n dX4_joinClaims_45 (by decide) rfl ?_
        refine mw_goto (tgt := 5) dX4_joinClaims_46 rfl ?_
        exact MW.sub (subL_s (subL_s (subL_s (subL_n subL_nil)))) (ih _ _ _ _ _ hf hX49)
      refine mw_icmp_ne (tgt := 41) dX4_joinClaims_14 rfl (fun c6 => ?_) (fun c6 => ?_)
      · rw [if_neg c6] at r44
        obtain rfl := y0 r44
        exact MW.sub (subL_s (subL_s (subL_s (subL_n subL_nil)))) J108
      · rw [if_pos c6] at r44
        refine mw_aload_n (x := q2) dX4_joinClaims_17 rfl ?_
        refine mw_iload_n (x := v1) dX4_joinClaims_18 rfl ?_
        obtain ⟨g27, e28, r44⟩ := ob r44
        obtain ⟨x29, h25, e26, r44⟩ := ob1 r44
        refine ml_callV (ci := 1) (mc' := 0) (ms' := 0) [vi v1] dX4_joinClaims_19 mk_X1_countsAt lk_RX4_150 im_X1_countsAt se_X1_countsAt (by decide) e28 rfl (Nat.le_of_ble_eq_true rfl) (Nat.le_of_ble_eq_true rfl) (t_X1_countsAt E _ e26 isR_rfl) ?_
        refine mw_if_eq (tgt := 41) dX4_joinClaims_22 rfl (fun c30 => ?_) (fun c30 => ?_)
        · rw [if_pos c30] at r44
          obtain rfl := y0 r44
          exact MW.sub (subL_s (subL_s (subL_s (subL_n subL_nil)))) J108
        · rw [if_neg c30] at r44
          refine mw_aload_n (x := (some a0)) dX4_joinClaims_25 rfl ?_
          refine mw_aload_n (x := q2) dX4_joinClaims_26 rfl ?_
          obtain ⟨x31, e32, r44⟩ := ob r44
          refine ml_getI dX4_joinClaims_27 fl_RX4_153 rfl e32 ?_
          obtain ⟨g35, e36, r44⟩ := ob r44
          obtain ⟨h33, e34, r44⟩ := ob r44
          refine ml_callV (ci := 4) (mc' := 0) (ms' := 0) [vi x31] dX4_joinClaims_30 mk_X4_findChain lk_RX4_208 im_X4_findChain se_X4_findChain (by decide) e36 rfl (Nat.le_of_ble_eq_true rfl) (Nat.le_of_ble_eq_true rfl) (t_X4_findChain E _ e34 isR_rfl) ?_
          refine mw_aload_n (x := (some a0)) dX4_joinClaims_33 rfl ?_
          refine mw_aload_n (x := q2) dX4_joinClaims_34 rfl ?_
          obtain ⟨x37, e38, r44⟩ := ob r44
          refine ml_getI dX4_joinClaims_35 fl_RX4_153 rfl e38 ?_
          obtain ⟨g41, e42, r44⟩ := ob r44
          obtain ⟨h39, e40, r44⟩ := ob r44
          refine ml_callV (ci := 4) (mc' := 0) (ms' := 0) [vi x37] dX4_joinClaims_38 mk_X4_noteClaim lk_RX4_212 im_X4_noteClaim se_X4_noteClaim (by decide) e42 rfl (Nat.le_of_ble_eq_true rfl) (Nat.le_of_ble_eq_true rfl) (t_X4_noteClaim E _ e40 isR_rfl) ?_
          obtain rfl := y0 r44
          exact MW.sub (subL_s (subL_s (subL_s (subL_n subL_nil)))) J108
set_option maxHeartbeats 4000000 in
theorem tl_X4_joinClaims_61 (E : En) (d : Nat) {mc ms : Nat} {K : Option Vv → Hp → Prop} : ∀ (n : Nat) (a0 : Nat) (v2 : Int32) (h : Hp) (hz : Hp), f_X4_joinClaims_L61 n a0 v2 h = some hz → MW E m_X4_joinClaims (d + 3) mc ms 124 [none, none, none, none] [] hz K → MW E m_X4_joinClaims (d + 3) mc ms 61 [some (vq (some a0)), none, some (vi v2), none] [] h K := by
  intro n
  induction n with
  | zero => intro a0 v2 h hz hf; exact nomatch (show none = some _ from hf)
  | succ n ih =>
    intro a0 v2 h hz hf hX124
    rw [f_X4_joinClaims_L61] at hf
    refine mw_iload_n (x := v2) dX4_joinClaims_61 rfl ?_
    refine mw_aload_n (x := (some a0)) dX4_joinClaims_62 rfl ?_
    obtain ⟨x52, e53, hf⟩ := ob hf
    refine ml_getI dX4_joinClaims_63 fl_RX4_172 rfl e53 ?_
    refine mw_icmp_ge (tgt := 124) dX4_joinClaims_66 rfl (fun c54 => ?_) (fun c54 => ?_)
    · rw [if_pos c54] at hf
      obtain rfl := y0 hf
      exact MW.sub (subL_n (subL_n (subL_n (subL_n subL_nil)))) hX124
    · rw [if_neg c54] at hf
      refine mw_aload_n (x := (some a0)) dX4_joinClaims_69 rfl ?_
      refine mw_iload_n (x := v2) dX4_joinClaims_70 rfl ?_
      obtain ⟨g57, e58, hf⟩ := ob hf
      obtain ⟨x59, h55, e56, hf⟩ := ob1 hf
      refine ml_callV (ci := 4) (mc' := 0) (ms' := 0) [vi v2] dX4_joinClaims_71 mk_X4_listedAt lk_RX4_195 im_X4_listedAt se_X4_listedAt (by decide) e58 rfl (Nat.le_of_ble_eq_true rfl) (Nat.le_of_ble_eq_true rfl) (t_X4_listedAt E _ e56 isR_rfl) ?_
      refine mw_astore_n dX4_joinClaims_74 (by decide) rfl ?_
      refine mw_aload_n (x := x59) dX4_joinClaims_75 rfl ?_
      obtain ⟨h101, r102, hf⟩ := ob hf
      have J109 : MW E m_X4_joinClaims (d + 3) mc ms 118 [some (vq (some a0)), none, some (vi v2), none] [] h101 K := by
        refine mw_iinc (x := v2) (v := v2 + 1) dX4_joinClaims_118 rfl rfl (by decide) rfl ?_
        refine mw_goto (tgt := 61) dX4_joinClaims_121 rfl ?_
        exact MW.sub (subL_s (subL_n (subL_s (subL_n subL_nil)))) (ih _ _ _ _ hf hX124)
      refine mw_ifnull (tgt := 118) dX4_joinClaims_76 rfl (fun c60 => ?_) (fun c60 => ?_)
      · rw [if_pos c60] at r102
        obtain rfl := y0 r102
        exact MW.sub (subL_s (subL_n (subL_s (subL_n subL_nil)))) J109
      · rw [if_neg c60] at r102
        refine mw_aload_n (x := x59) dX4_joinClaims_79 rfl ?_
        obtain ⟨x81, e82, r102⟩ := ob r102
        refine ml_getI dX4_joinClaims_80 fl_RX4_185 rfl e82 ?_
        refine mw_iconst (v := (-1)) dX4_joinClaims_83 (by decide) ?_
        refine mw_icmp_eq (tgt := 118) dX4_joinClaims_84 rfl (fun c83 => ?_) (fun c83 => ?_)
        · rw [if_pos c83] at r102
          obtain rfl := y0 r102
          exact MW.sub (subL_s (subL_n (subL_s (subL_n subL_nil)))) J109
        · rw [if_neg c83] at r102
          refine mw_aload_n (x := (some a0)) dX4_joinClaims_87 rfl ?_
          refine mw_dupq dX4_joinClaims_88 ?_
          obtain ⟨x84, e85, r102⟩ := ob r102
          refine ml_getJ dX4_joinClaims_89 fl_RX4_215 rfl e85 ?_
          refine mw_aload_n (x := (some a0)) dX4_joinClaims_92 rfl ?_
          refine mw_aload_n (x := x59) dX4_joinClaims_93 rfl ?_
          refine mw_aload_n (x := x59) dX4_joinClaims_94 rfl ?_
          obtain ⟨x86, e87, r102⟩ := ob r102
          refine ml_getI dX4_joinClaims_95 fl_RX4_185 rfl e87 ?_
          obtain ⟨g90, e91, r102⟩ := ob r102
          obtain ⟨x92, h88, e89, r102⟩ := ob1 r102
          refine ml_callV (ci := 4) (mc' := 0) (ms' := 0) [vq x59, vi x86] dX4_joinClaims_98 mk_X4_withInterest lk_RX4_204 im_X4_withInterest se_X4_withInterest (by decide) e91 rfl (Nat.le_of_ble_eq_true rfl) (Nat.le_of_ble_eq_true rfl) (t_X4_withInterest E _ e89 isR_rfl) ?_
          refine mw_ladd dX4_joinClaims_101 ?_
          obtain ⟨h93, e94, r102⟩ := ob r102
          refine ml_putJ dX4_joinClaims_102 fl_RX4_215 (Or.inl rfl) rfl rfl e94 ?_
          refine mw_aload_n (x := (some a0)) dX4_joinClaims_105 rfl ?_
          refine mw_dupq dX4_joinClaims_106 ?_
          obtain ⟨x95, e96, r102⟩ := ob r102
          refine ml_getI dX4_joinClaims_107 fl_RX4_219 rfl e96 ?_
          refine mw_aload_n (x := x59) dX4_joinClaims_110 rfl ?_
          obtain ⟨x97, e98, r102⟩ := ob r102
          refine ml_getI dX4_joinClaims_111 fl_RX4_182 rfl e98 ?_
          refine mw_ior dX4_joinClaims_114 ?_
          obtain ⟨h99, e100, r102⟩ := ob r102
          refine ml_putI dX4_joinClaims_115 fl_RX4_219 (Or.inl rfl) rfl rfl e100 ?_
          obtain rfl := y0 r102
          exact MW.sub (subL_s (subL_n (subL_s (subL_n subL_nil)))) J109
set_option maxHeartbeats 4000000 in
theorem t_X4_joinClaims (E : En) (d : Nat) {mc ms : Nat} {a0 : Nat} {v1 : Int32} {h h' : Hp} {K : Option Vv → Hp → Prop} (hf : f_X4_joinClaims a0 v1 h = some h') (hk : K none h') : MC E m_X4_joinClaims (d + 3) mc ms [vq (some a0), vi v1] h K := by
  unfold f_X4_joinClaims at hf
  show MW E m_X4_joinClaims (d + 3) mc ms 0 [some (vq (some a0)), some (vi v1), none, none] [] h K
  refine mw_aload_n (x := (some a0)) dX4_joinClaims_0 rfl ?_
  obtain ⟨x1, e2, hf⟩ := ob hf
  refine ml_getQ dX4_joinClaims_1 fl_RX4_46 rfl e2 ?_
  refine mw_astore_n dX4_joinClaims_4 (by decide) rfl ?_
  obtain ⟨h47, e106, hf⟩ := ob hf
  refine MW.sub (subL_s (subL_s (subL_s (subL_n subL_nil)))) (tl_X4_joinClaims_5 E d _ _ _ _ _ _ e106 ?_)
  refine mw_aload_n (x := (some a0)) dX4_joinClaims_49 rfl ?_
  refine mw_lconst (v := 0) dX4_joinClaims_50 (by decide) ?_
  obtain ⟨h48, e49, hf⟩ := ob hf
  refine ml_putJ dX4_joinClaims_51 fl_RX4_215 (Or.inl rfl) rfl rfl e49 ?_
  refine mw_aload_n (x := (some a0)) dX4_joinClaims_54 rfl ?_
  refine mw_iconst (v := 0) dX4_joinClaims_55 (by decide) ?_
  obtain ⟨h50, e51, hf⟩ := ob hf
  refine ml_putI dX4_joinClaims_56 fl_RX4_219 (Or.inl rfl) rfl rfl e51 ?_
  refine mw_iconst (v := 0) dX4_joinClaims_59 (by decide) ?_
  refine mw_istore_n dX4_joinClaims_60 (by decide) rfl ?_
  obtain ⟨h103, e104, hf⟩ := ob hf
  refine MW.sub (subL_s (subL_n (subL_s (subL_n subL_nil)))) (tl_X4_joinClaims_61 E d _ _ _ _ _ e104 ?_)
  obtain rfl := y0 hf
  exact mw_return dX4_joinClaims_124 rfl hk
def f_X4_links (a0 : Nat) (h : Hp) : Option (Int32 × Hp) :=
  (getI h (some a0) 4 14).bind fun x1 =>
  (getI h (some a0) 4 13).bind fun x3 =>
  some (((x1 - x3) + (1 : Int32)), h)
set_option maxHeartbeats 4000000 in
theorem t_X4_links (E : En) (d : Nat) {mc ms : Nat} {a0 : Nat} {h h' : Hp} {r : Int32} {K : Option Vv → Hp → Prop} (hf : f_X4_links a0 h = some (r, h')) (hk : K (some (vi r)) h') : MC E m_X4_links (d + 0) mc ms [vq (some a0)] h K := by
  unfold f_X4_links at hf
  show MW E m_X4_links (d + 0) mc ms 0 [some (vq (some a0))] [] h K
  refine mw_aload_n (x := (some a0)) dX4_links_0 rfl ?_
  obtain ⟨x1, e2, hf⟩ := ob hf
  refine ml_getI dX4_links_1 fl_RX4_192 rfl e2 ?_
  refine mw_aload_n (x := (some a0)) dX4_links_4 rfl ?_
  obtain ⟨x3, e4, hf⟩ := ob hf
  refine ml_getI dX4_links_5 fl_RX4_199 rfl e4 ?_
  refine mw_isub dX4_links_8 ?_
  refine mw_iconst (v := 1) dX4_links_9 (by decide) ?_
  refine mw_iadd dX4_links_10 ?_
  obtain ⟨rfl, rfl⟩ := y1 hf
  exact mw_ireturn dX4_links_11 rfl rfl hk
def f_X4_owedFor_L5 : Nat → Nat → Option Nat → Int32 → Option Nat → Hp → Option ((Hp) ⊕ (Hp))
  | 0, _, _, _, _, _ => none
  | n + 1, a0, q1, v2, q3, h =>
    if q3 = none then
      some (Sum.inr h)
    else
      (getI h q3 1 1).bind fun x4 =>
      if x4 = (4 : Int32) then
        (rc h q3 1).bind fun g11 =>
        b1 (f_X1_countsAt g11 v2 h) fun x13 h9 =>
        if x13 = (0 : Int32) then
          (getQ h9 q3 1 8).bind fun x15 =>
          f_X4_owedFor_L5 n a0 q1 v2 x15 h9
        else
          (getI h9 q1 1 2).bind fun x17 =>
          (getI h9 q3 1 2).bind fun x19 =>
          (getI h9 q3 1 3).bind fun x21 =>
          b1 (f_X8_within x17 x19 x21 h9) fun x25 h23 =>
          if x25 = (0 : Int32) then
            (getQ h23 q3 1 8).bind fun x27 =>
            f_X4_owedFor_L5 n a0 q1 v2 x27 h23
          else
            some (Sum.inl h23)
      else
        (getQ h q3 1 8).bind fun x7 =>
        f_X4_owedFor_L5 n a0 q1 v2 x7 h
def f_X4_owedFor (a0 : Nat) (q1 : Option Nat) (v2 : Int32) (h : Hp) : Option (Int32 × Hp) :=
  (getQ h (some a0) 4 1).bind fun x1 =>
  (f_X4_owedFor_L5 fu a0 q1 v2 x1 h).bind (Sum.elim (fun h29 => some (0, h29)) (fun h30 => (getQ h30 (some a0) 4 0).bind fun x31 =>
    (rc h30 x31 0).bind fun g35 =>
    b1 (f_X0_number g35 (2 : Int32) h30) fun x37 h33 =>
    b1 ((if x37 ≤ (0 : Int32) then
        some (0, h33)
      else
        (getI h33 q1 1 2).bind fun x50 =>
        (rc h33 (some a0) 4).bind fun g54 =>
        b1 (f_X4_averageFor g54 x50 h33) fun x56 h52 =>
        (getI h52 q1 1 3).bind fun x57 =>
        (dvI (x56 * x57) x37).bind fun x59 =>
        some (x59, h52) : Option (Int32 × Hp))) fun w61 h62 =>
    (getI h62 q1 1 4).bind fun x64 =>
    some ((mxI (0 : Int32) (w61 - x64)), h62)))
set_option maxHeartbeats 4000000 in
theorem tl_X4_owedFor_5 (E : En) (d : Nat) {mc ms : Nat} {K : Option Vv → Hp → Prop} : ∀ (n : Nat) (a0 : Nat) (q1 : Option Nat) (v2 : Int32) (q3 : Option Nat) (h : Hp) (o : (Hp) ⊕ (Hp)), f_X4_owedFor_L5 n a0 q1 v2 q3 h = some o → (∀ (hz : Hp), o = Sum.inl hz → MW E m_X4_owedFor (d + 4) mc ms 43 [none, none, none, none, none] [] hz K) → (∀ (hz : Hp), o = Sum.inr hz → MW E m_X4_owedFor (d + 4) mc ms 53 [some (vq (some a0)), some (vq q1), none, none, none] [] hz K) → MW E m_X4_owedFor (d + 4) mc ms 5 [some (vq (some a0)), some (vq q1), some (vi v2), some (vq q3), none] [] h K := by
  intro n
  induction n with
  | zero => intro a0 q1 v2 q3 h o hf; exact nomatch (show none = some _ from hf)
  | succ n ih =>
    intro a0 q1 v2 q3 h o hf hX43 hX53
    rw [f_X4_owedFor_L5] at hf
    refine mw_aload_n (x := q3) dX4_owedFor_5 rfl ?_
    refine mw_ifnull (tgt := 53) dX4_owedFor_6 rfl (fun c3 => ?_) (fun c3 => ?_)
    · rw [if_pos c3] at hf
      obtain rfl := y0 hf
      exact MW.sub (subL_s (subL_s (subL_n (subL_n (subL_n subL_nil))))) (hX53 _ rfl)
    · rw [if_neg c3] at hf
      refine mw_aload_n (x := q3) dX4_owedFor_9 rfl ?_
      obtain ⟨x4, e5, hf⟩ := ob hf
      refine ml_getI dX4_owedFor_10 fl_RX4_147 rfl e5 ?_
      refine mw_iconst (v := 4) dX4_owedFor_13 (by decide) ?_
      refine mw_icmp_ne (tgt := 45) dX4_owedFor_14 rfl (fun c6 => ?_) (fun c6 => ?_)
      · rw [if_neg c6] at hf
        refine mw_aload_n (x := q3) dX4_owedFor_45 rfl ?_
        obtain ⟨x7, e8, hf⟩ := ob hf
        refine ml_getQ dX4_owedFor_46 fl_RX4_163 rfl e8 ?_
        refine mw_astore_n dX4_owedFor_49 (by decide) rfl ?_
        refine mw_goto (tgt := 5) dX4_owedFor_50 rfl ?_
        exact MW.sub (subL_s (subL_s (subL_s (subL_s (subL_n subL_nil))))) (ih _ _ _ _ _ _ hf hX43 hX53)
      · rw [if_pos c6] at hf
        refine mw_aload_n (x := q3) dX4_owedFor_17 rfl ?_
        refine mw_iload_n (x := v2) dX4_owedFor_18 rfl ?_
        obtain ⟨g11, e12, hf⟩ := ob hf
        obtain ⟨x13, h9, e10, hf⟩ := ob1 hf
        refine ml_callV (ci := 1) (mc' := 0) (ms' := 0) [vi v2] dX4_owedFor_19 mk_X1_countsAt lk_RX4_150 im_X1_countsAt se_X1_countsAt (by decide) e12 rfl (Nat.le_of_ble_eq_true rfl) (Nat.le_of_ble_eq_true rfl) (t_X1_countsAt E _ e10 isR_rfl) ?_
        refine mw_if_eq (tgt := 45) dX4_owedFor_22 rfl (fun c14 => ?_) (fun c14 => ?_)
        · rw [if_pos c14] at hf
          refine mw_aload_n (x := q3) dX4_owedFor_45 rfl ?_
          obtain ⟨x15, e16, hf⟩ := ob hf
          refine ml_getQ dX4_owedFor_46 fl_RX4_163 rfl e16 ?_
          refine mw_astore_n dX4_owedFor_49 (by decide) rfl ?_
          refine mw_goto (tgt := 5) dX4_owedFor_50 rfl ?_
          exact MW.sub (subL_s (subL_s (subL_s (subL_s (subL_n subL_nil))))) (ih _ _ _ _ _ _ hf hX43 hX53)
        · rw [if_neg c14] at hf
          refine mw_aload_n (x := q1) dX4_owedFor_25 rfl ?_
          obtain ⟨x17, e18, hf⟩ := ob hf
          refine ml_getI dX4_owedFor_26 fl_RX4_153 rfl e18 ?_
          refine mw_aload_n (x := q3) dX4_owedFor_29 rfl ?_
          obtain ⟨x19, e20, hf⟩ := ob hf
          refine ml_getI dX4_owedFor_30 fl_RX4_153 rfl e20 ?_
          refine mw_aload_n (x := q3) dX4_owedFor_33 rfl ?_
          obtain ⟨x21, e22, hf⟩ := ob hf
          refine ml_getI dX4_owedFor_34 fl_RX4_156 rfl e22 ?_
          obtain ⟨x25, h23, e24, hf⟩ := ob1 hf
          refine ml_callSN (mc' := 0) (ms' := 0) [vi x17, vi x19, vi x21] dX4_owedFor_37 mk_X8_within lk_RX4_159 st_X8_within rfl (Nat.le_of_ble_eq_true rfl) (Nat.le_of_ble_eq_true rfl) (t_X8_within E _ e24 isR_rfl) ?_
          refine mw_if_eq (tgt := 45) dX4_owedFor_40 rfl (fun c26 => ?_) (fun c26 => ?_)
          · rw [if_pos c26] at hf
            refine mw_aload_n (x := q3) dX4_owedFor_45 rfl ?_
            obtain ⟨x27, e28, hf⟩ := ob hf
            refine ml_getQ dX4_owedFor_46 fl_RX4_163 rfl e28 ?_
            refine mw_astore_n dX4_owedFor_49 (by decide) rfl ?_
            refine mw_goto (tgt := 5) dX4_owedFor_50 rfl ?_
            exact MW.sub (subL_s (subL_s (subL_s (subL_s (subL_n subL_nil))))) (ih _ _ _ _ _ _ hf hX43 hX53)
          · rw [if_neg c26] at hf
            obtain rfl := y0 hf
            exact MW.sub (subL_n (subL_n (subL_n (subL_n (subL_n subL_nil))))) (hX43 _ rfl)
set_option maxHeartbeats 4000000 in
theorem t_X4_owedFor (E : En) (d : Nat) {mc ms : Nat} {a0 : Nat} {q1 : Option Nat} {v2 : Int32} {h h' : Hp} {r : Int32} {K : Option Vv → Hp → Prop} (hf : f_X4_owedFor a0 q1 v2 h = some (r, h')) (hk : K (some (vi r)) h') : MC E m_X4_owedFor (d + 4) mc ms [vq (some a0), vq q1, vi v2] h K := by
  unfold f_X4_owedFor at hf
  show MW E m_X4_owedFor (d + 4) mc ms 0 [some (vq (some a0)), some (vq q1), some (vi v2), none, none] [] h K
  refine mw_aload_n (x := (some a0)) dX4_owedFor_0 rfl ?_
  obtain ⟨x1, e2, hf⟩ := ob hf
  refine ml_getQ dX4_owedFor_1 fl_RX4_46 rfl e2 ?_
  refine mw_astore_n dX4_owedFor_4 (by decide) rfl ?_
  obtain ⟨o67, e66, hf⟩ := ob hf
  rcases o67 with h29 | h30
  · have HX : MW E m_X4_owedFor (d + 4) mc ms 43 [none, none, none, none, none] [] h29 K := by
      refine mw_iconst (v := 0) dX4_owedFor_43 (by decide) ?_
      obtain ⟨rfl, rfl⟩ := y1 hf
      exact mw_ireturn dX4_owedFor_44 rfl rfl hk
    exact MW.sub (subL_s (subL_s (subL_s (subL_s (subL_n subL_nil))))) (tl_X4_owedFor_5 E d _ _ _ _ _ _ _ e66 (fun _ q => by cases q; exact HX) (fun _ q => by cases q))
  · have HX : MW E m_X4_owedFor (d + 4) mc ms 53 [some (vq (some a0)), some (vq q1), none, none, none] [] h30 K := by
      refine mw_aload_n (x := (some a0)) dX4_owedFor_53 rfl ?_
      obtain ⟨x31, e32, hf⟩ := ob hf
      refine ml_getQ dX4_owedFor_54 fl_RX4_12 rfl e32 ?_
      refine mw_iconst (v := 2) dX4_owedFor_57 (by decide) ?_
      obtain ⟨g35, e36, hf⟩ := ob hf
      obtain ⟨x37, h33, e34, hf⟩ := ob1 hf
      refine ml_callV (ci := 0) (mc' := 0) (ms' := 0) [vi (2 : Int32)] dX4_owedFor_58 mk_X0_number lk_RX4_126 im_X0_number se_X0_number (by decide) e36 rfl (Nat.le_of_ble_eq_true rfl) (Nat.le_of_ble_eq_true rfl) (t_X0_number E _ e34 isR_rfl) ?_
      refine mw_istore_n dX4_owedFor_61 (by decide) rfl ?_
      refine mw_iload_n (x := x37) dX4_owedFor_62 rfl ?_
      obtain ⟨w61, h62, r63, hf⟩ := ob1 hf
      have J68 : MW E m_X4_owedFor (d + 4) mc ms 85 [none, some (vq q1), none, none, none] [vi w61] h62 K := by
        refine mw_istore dX4_owedFor_85 (by decide) rfl ?_
        refine mw_iconst (v := 0) dX4_owedFor_87 (by decide) ?_
        refine mw_iload (x := w61) dX4_owedFor_88 rfl ?_
        refine mw_aload_n (x := q1) dX4_owedFor_90 rfl ?_
        obtain ⟨x64, e65, hf⟩ := ob hf
        refine ml_getI dX4_owedFor_91 fl_RX4_169 rfl e65 ?_
        refine mw_isub dX4_owedFor_94 ?_
        refine ml_max dX4_owedFor_95 lk_RX4_130 (Nat.le_of_ble_eq_true rfl) ?_
        obtain ⟨rfl, rfl⟩ := y1 hf
        exact mw_ireturn dX4_owedFor_98 rfl rfl hk
      refine mw_if_le (tgt := 84) dX4_owedFor_63 rfl (fun c38 => ?_) (fun c38 => ?_)
      · rw [if_pos c38] at r63
        refine mw_iconst (v := 0) dX4_owedFor_84 (by decide) ?_
        obtain ⟨rfl, rfl⟩ := y1 r63
        exact MW.sub (subL_n (subL_s (subL_n (subL_n (subL_n subL_nil))))) J68
      · rw [if_neg c38] at r63
        refine mw_aload_n (x := (some a0)) dX4_owedFor_66 rfl ?_
        refine mw_aload_n (x := q1) dX4_owedFor_67 rfl ?_
        obtain ⟨x50, e51, r63⟩ := ob r63
        refine ml_getI dX4_owedFor_68 fl_RX4_153 rfl e51 ?_
        obtain ⟨g54, e55, r63⟩ := ob r63
        obtain ⟨x56, h52, e53, r63⟩ := ob1 r63
        refine ml_callV (ci := 4) (mc' := 0) (ms' := 0) [vi x50] dX4_owedFor_71 mk_X4_averageFor lk_RX4_166 im_X4_averageFor se_X4_averageFor (by decide) e55 rfl (Nat.le_of_ble_eq_true rfl) (Nat.le_of_ble_eq_true rfl) (t_X4_averageFor E _ e53 isR_rfl) ?_
        refine mw_aload_n (x := q1) dX4_owedFor_74 rfl ?_
        obtain ⟨x57, e58, r63⟩ := ob r63
        refine ml_getI dX4_owedFor_75 fl_RX4_156 rfl e58 ?_
        refine mw_imul dX4_owedFor_78 ?_
        refine mw_iload_n (x := x37) dX4_owedFor_79 rfl ?_
        obtain ⟨x59, e60, r63⟩ := ob r63
        refine ml_idiv dX4_owedFor_80 e60 ?_
        refine mw_goto (tgt := 85) dX4_owedFor_81 rfl ?_
        obtain ⟨rfl, rfl⟩ := y1 r63
        exact MW.sub (subL_n (subL_s (subL_n (subL_n (subL_n subL_nil))))) J68
    exact MW.sub (subL_s (subL_s (subL_s (subL_s (subL_n subL_nil))))) (tl_X4_owedFor_5 E d _ _ _ _ _ _ _ e66 (fun _ q => by cases q) (fun _ q => by cases q; exact HX))
def f_X4_listHolidays_L10 : Nat → Nat → Int32 → Option Nat → Hp → Option ((Hp))
  | 0, _, _, _, _ => none
  | n + 1, a0, v1, q2, h =>
    if q2 = none then
      some h
    else
      (getI h q2 1 1).bind fun x6 =>
      b1 ((if x6 = (3 : Int32) then
          (rc h q2 1).bind fun g22 =>
          b1 (f_X1_countsAt g22 v1 h) fun x24 h20 =>
          if x24 = (0 : Int32) then
            some (0, h20)
          else
            (rc h20 (some a0) 4).bind fun g28 =>
            b1 (f_X4_owedFor g28 q2 v1 h20) fun x30 h26 =>
            some (x30, h26)
        else
          some (0, h) : Option (Int32 × Hp))) fun w31 h32 =>
      Option.bind ((if w31 ≤ (0 : Int32) then
          some h32
        else
          (putI h32 q2 1 9 w31).bind fun h47 =>
          (getI h47 (some a0) 4 10).bind fun x49 =>
          (putI h47 q2 1 10 x49).bind fun h51 =>
          (putI h51 q2 1 11 (-1)).bind fun h53 =>
          (rc h53 (some a0) 4).bind fun g57 =>
          (f_X4_insert g57 q2 h53).bind fun h55 =>
          some h55 : Option (Hp))) fun h59 =>
      (getQ h59 q2 1 8).bind fun x61 =>
      f_X4_listHolidays_L10 n a0 v1 x61 h59
def f_X4_listHolidays (a0 : Nat) (v1 : Int32) (h : Hp) : Option (Hp) :=
  (putI h (some a0) 4 12 0).bind fun h1 =>
  (getQ h1 (some a0) 4 1).bind fun x3 =>
  (f_X4_listHolidays_L10 fu a0 v1 x3 h1).bind fun h63 =>
  some h63
set_option maxHeartbeats 4000000 in
theorem tl_X4_listHolidays_10 (E : En) (d : Nat) {mc ms : Nat} {K : Option Vv → Hp → Prop} : ∀ (n : Nat) (a0 : Nat) (v1 : Int32) (q2 : Option Nat) (h : Hp) (hz : Hp), f_X4_listHolidays_L10 n a0 v1 q2 h = some hz → MW E m_X4_listHolidays (d + 5) mc ms 76 [none, none, none, none] [] hz K → MW E m_X4_listHolidays (d + 5) mc ms 10 [some (vq (some a0)), some (vi v1), some (vq q2), none] [] h K := by
  intro n
  induction n with
  | zero => intro a0 v1 q2 h hz hf; exact nomatch (show none = some _ from hf)
  | succ n ih =>
    intro a0 v1 q2 h hz hf hX76
    rw [f_X4_listHolidays_L10] at hf
    refine mw_aload_n (x := q2) dX4_listHolidays_10 rfl ?_
    refine mw_ifnull (tgt := 76) dX4_listHolidays_11 rfl (fun c5 => ?_) (fun c5 => ?_)
    · rw [if_pos c5] at hf
      obtain rfl := y0 hf
      exact MW.sub (subL_n (subL_n (subL_n (subL_n subL_nil)))) hX76
    · rw [if_neg c5] at hf
      refine mw_aload_n (x := q2) dX4_listHolidays_14 rfl ?_
      obtain ⟨x6, e7, hf⟩ := ob hf
      refine ml_getI dX4_listHolidays_15 fl_RX4_147 rfl e7 ?_
      refine mw_iconst (v := 3) dX4_listHolidays_18 (by decide) ?_
      obtain ⟨w31, h32, r33, hf⟩ := ob1 hf
      have J66 : MW E m_X4_listHolidays (d + 5) mc ms 40 [some (vq (some a0)), some (vi v1), some (vq q2), none] [vi w31] h32 K := by
        refine mw_istore_n dX4_listHolidays_40 (by decide) rfl ?_
        refine mw_iload_n (x := w31) dX4_listHolidays_41 rfl ?_
        obtain ⟨h59, r60, hf⟩ := ob hf
        have J67 : MW E m_X4_listHolidays (d + 5) mc ms 68 [some (vq (some a0)), some (vi v1), some (vq q2), none] [] h59 K := by
          refine mw_aload_n (x := q2) dX4_listHolidays_68 rfl ?_
          obtain ⟨x61, e62, hf⟩ := ob hf
          refine ml_getQ dX4_listHolidays_69 fl_RX4_163 rfl e62 ?_
          refine mw_astore_n dX4_listHolidays_72 (by decide) rfl ?_
          refine mw_goto (tgt := 10) dX4_listHolidays_73 rfl ?_
          exact MW.sub (subL_s (subL_s (subL_s (subL_n subL_nil)))) (ih _ _ _ _ _ hf hX76)
        refine mw_if_le (tgt := 68) dX4_listHolidays_42 rfl (fun c34 => ?_) (fun c34 => ?_)
        · rw [if_pos c34] at r60
          obtain rfl := y0 r60
          exact MW.sub (subL_s (subL_s (subL_s (subL_n subL_nil)))) J67
        · rw [if_neg c34] at r60
          refine mw_aload_n (x := q2) dX4_listHolidays_45 rfl ?_
          refine mw_iload_n (x := w31) dX4_listHolidays_46 rfl ?_
          obtain ⟨h47, e48, r60⟩ := ob r60
          refine ml_putI dX4_listHolidays_47 fl_RX4_179 (Or.inl rfl) rfl rfl e48 ?_
          refine mw_aload_n (x := q2) dX4_listHolidays_50 rfl ?_
          refine mw_aload_n (x := (some a0)) dX4_listHolidays_51 rfl ?_
          obtain ⟨x49, e50, r60⟩ := ob r60
          refine ml_getI dX4_listHolidays_52 fl_RX4_138 rfl e50 ?_
          obtain ⟨h51, e52, r60⟩ := ob r60
          refine ml_putI dX4_listHolidays_55 fl_RX4_182 (Or.inl rfl) rfl rfl e52 ?_
          refine mw_aload_n (x := q2) dX4_listHolidays_58 rfl ?_
          refine mw_iconst (v := (-1)) dX4_listHolidays_59 (by decide) ?_
          obtain ⟨h53, e54, r60⟩ := ob r60
          refine ml_putI dX4_listHolidays_60 fl_RX4_185 (Or.inl rfl) rfl rfl e54 ?_
          refine mw_aload_n (x := (some a0)) dX4_listHolidays_63 rfl ?_
          refine mw_aload_n (x := q2) dX4_listHolidays_64 rfl ?_
          obtain ⟨g57, e58, r60⟩ := ob r60
          obtain ⟨h55, e56, r60⟩ := ob r60
          refine ml_callV (ci := 4) (mc' := 0) (ms' := 0) [vq q2] dX4_listHolidays_65 mk_X4_insert lk_RX4_188 im_X4_insert se_X4_insert (by decide) e58 rfl (Nat.le_of_ble_eq_true rfl) (Nat.le_of_ble_eq_true rfl) (t_X4_insert E _ e56 isR_rfl) ?_
          obtain rfl := y0 r60
          exact MW.sub (subL_s (subL_s (subL_s (subL_n subL_nil)))) J67
      refine mw_icmp_ne (tgt := 39) dX4_listHolidays_19 rfl (fun c8 => ?_) (fun c8 => ?_)
      · rw [if_neg c8] at r33
        refine mw_iconst (v := 0) dX4_listHolidays_39 (by decide) ?_
        obtain ⟨rfl, rfl⟩ := y1 r33
        exact MW.sub (subL_s (subL_s (subL_s (subL_n subL_nil)))) J66
      · rw [if_pos c8] at r33
        refine mw_aload_n (x := q2) dX4_listHolidays_22 rfl ?_
        refine mw_iload_n (x := v1) dX4_listHolidays_23 rfl ?_
        obtain ⟨g22, e23, r33⟩ := ob r33
        obtain ⟨x24, h20, e21, r33⟩ := ob1 r33
        refine ml_callV (ci := 1) (mc' := 0) (ms' := 0) [vi v1] dX4_listHolidays_24 mk_X1_countsAt lk_RX4_150 im_X1_countsAt se_X1_countsAt (by decide) e23 rfl (Nat.le_of_ble_eq_true rfl) (Nat.le_of_ble_eq_true rfl) (t_X1_countsAt E _ e21 isR_rfl) ?_
        refine mw_if_eq (tgt := 39) dX4_listHolidays_27 rfl (fun c25 => ?_) (fun c25 => ?_)
        · rw [if_pos c25] at r33
          refine mw_iconst (v := 0) dX4_listHolidays_39 (by decide) ?_
          obtain ⟨rfl, rfl⟩ := y1 r33
          exact MW.sub (subL_s (subL_s (subL_s (subL_n subL_nil)))) J66
        · rw [if_neg c25] at r33
          refine mw_aload_n (x := (some a0)) dX4_listHolidays_30 rfl ?_
          refine mw_aload_n (x := q2) dX4_listHolidays_31 rfl ?_
          refine mw_iload_n (x := v1) dX4_listHolidays_32 rfl ?_
          obtain ⟨g28, e29, r33⟩ := ob r33
          obtain ⟨x30, h26, e27, r33⟩ := ob1 r33
          refine ml_callV (ci := 4) (mc' := 0) (ms' := 0) [vq q2, vi v1] dX4_listHolidays_33 mk_X4_owedFor lk_RX4_175 im_X4_owedFor se_X4_owedFor (by decide) e29 rfl (Nat.le_of_ble_eq_true rfl) (Nat.le_of_ble_eq_true rfl) (t_X4_owedFor E _ e27 isR_rfl) ?_
          refine mw_goto (tgt := 40) dX4_listHolidays_36 rfl ?_
          obtain ⟨rfl, rfl⟩ := y1 r33
          exact MW.sub (subL_s (subL_s (subL_s (subL_n subL_nil)))) J66
set_option maxHeartbeats 4000000 in
theorem t_X4_listHolidays (E : En) (d : Nat) {mc ms : Nat} {a0 : Nat} {v1 : Int32} {h h' : Hp} {K : Option Vv → Hp → Prop} (hf : f_X4_listHolidays a0 v1 h = some h') (hk : K none h') : MC E m_X4_listHolidays (d + 5) mc ms [vq (some a0), vi v1] h K := by
  unfold f_X4_listHolidays at hf
  show MW E m_X4_listHolidays (d + 5) mc ms 0 [some (vq (some a0)), some (vi v1), none, none] [] h K
  refine mw_aload_n (x := (some a0)) dX4_listHolidays_0 rfl ?_
  refine mw_iconst (v := 0) dX4_listHolidays_1 (by decide) ?_
  obtain ⟨h1, e2, hf⟩ := ob hf
  refine ml_putI dX4_listHolidays_2 fl_RX4_172 (Or.inl rfl) rfl rfl e2 ?_
  refine mw_aload_n (x := (some a0)) dX4_listHolidays_5 rfl ?_
  obtain ⟨x3, e4, hf⟩ := ob hf
  refine ml_getQ dX4_listHolidays_6 fl_RX4_46 rfl e4 ?_
  refine mw_astore_n dX4_listHolidays_9 (by decide) rfl ?_
  obtain ⟨h63, e64, hf⟩ := ob hf
  refine MW.sub (subL_s (subL_s (subL_s (subL_n subL_nil)))) (tl_X4_listHolidays_10 E d _ _ _ _ _ _ e64 ?_)
  obtain rfl := y0 hf
  exact mw_return dX4_listHolidays_76 rfl hk
def f_X4_open (a0 : Nat) (q1 : Option Nat) (q2 : Option Nat) (v3 : Int32) (h : Hp) : Option (Hp) :=
  (putQ h (some a0) 4 0 q1).bind fun h1 =>
  (getQ h1 q2 6 2).bind fun x3 =>
  (putQ h1 (some a0) 4 1 x3).bind fun h5 =>
  (getI h5 q2 6 0).bind fun x7 =>
  (putI h5 (some a0) 4 2 x7).bind fun h9 =>
  (getI h9 q2 6 1).bind fun x11 =>
  (putI h9 (some a0) 4 3 x11).bind fun h13 =>
  (getQ h13 q2 6 7).bind fun x15 =>
  (getQ h13 (some a0) 4 4).bind fun x17 =>
  (cpI h13 x15 0 x17 0 624).bind fun h19 =>
  b1 ((if v3 = (0 : Int32) then
      (getQ h19 q2 6 9).bind fun x26 =>
      some (x26, h19)
    else
      (getQ h19 q2 6 10).bind fun x28 =>
      some (x28, h19) : Option (Option Nat × Hp))) fun w30 h31 =>
  (getQ h31 (some a0) 4 4).bind fun x33 =>
  (cpI h31 w30 0 x33 0 104).bind fun h35 =>
  (getQ h35 (some a0) 4 5).bind fun x37 =>
  (f_J7_fill_53178 x37 ((-1) : Int32) h35).bind fun h39 =>
  (getQ h39 (some a0) 4 6).bind fun x41 =>
  (f_J7_fill_53178 x41 ((-1) : Int32) h39).bind fun h43 =>
  some h43
set_option maxHeartbeats 4000000 in
theorem t_X4_open (E : En) (d : Nat) {mc ms : Nat} {a0 : Nat} {q1 : Option Nat} {q2 : Option Nat} {v3 : Int32} {h h' : Hp} {K : Option Vv → Hp → Prop} (hf : f_X4_open a0 q1 q2 v3 h = some h') (hk : K none h') : MC E m_X4_open (d + 1) mc ms [vq (some a0), vq q1, vq q2, vi v3] h K := by
  unfold f_X4_open at hf
  show MW E m_X4_open (d + 1) mc ms 0 [some (vq (some a0)), some (vq q1), some (vq q2), some (vi v3)] [] h K
  refine mw_aload_n (x := (some a0)) dX4_open_0 rfl ?_
  refine mw_aload_n (x := q1) dX4_open_1 rfl ?_
  obtain ⟨h1, e2, hf⟩ := ob hf
  refine ml_putQ dX4_open_2 fl_RX4_12 (Or.inl rfl) rfl (Or.inl ⟨_, rfl⟩) e2 ?_
  refine mw_aload_n (x := (some a0)) dX4_open_5 rfl ?_
  refine mw_aload_n (x := q2) dX4_open_6 rfl ?_
  obtain ⟨x3, e4, hf⟩ := ob hf
  refine ml_getQ dX4_open_7 fl_RX4_40 rfl e4 ?_
  obtain ⟨h5, e6, hf⟩ := ob hf
  refine ml_putQ dX4_open_10 fl_RX4_46 (Or.inl rfl) rfl (Or.inl ⟨_, rfl⟩) e6 ?_
  refine mw_aload_n (x := (some a0)) dX4_open_13 rfl ?_
  refine mw_aload_n (x := q2) dX4_open_14 rfl ?_
  obtain ⟨x7, e8, hf⟩ := ob hf
  refine ml_getI dX4_open_15 fl_RX4_47 rfl e8 ?_
  obtain ⟨h9, e10, hf⟩ := ob hf
  refine ml_putI dX4_open_18 fl_RX4_51 (Or.inl rfl) rfl rfl e10 ?_
  refine mw_aload_n (x := (some a0)) dX4_open_21 rfl ?_
  refine mw_aload_n (x := q2) dX4_open_22 rfl ?_
  obtain ⟨x11, e12, hf⟩ := ob hf
  refine ml_getI dX4_open_23 fl_RX4_52 rfl e12 ?_
  obtain ⟨h13, e14, hf⟩ := ob hf
  refine ml_putI dX4_open_26 fl_RX4_55 (Or.inl rfl) rfl rfl e14 ?_
  refine mw_aload_n (x := q2) dX4_open_29 rfl ?_
  obtain ⟨x15, e16, hf⟩ := ob hf
  refine ml_getQ dX4_open_30 fl_RX4_56 rfl e16 ?_
  refine mw_iconst (v := 0) dX4_open_33 (by decide) ?_
  refine mw_aload_n (x := (some a0)) dX4_open_34 rfl ?_
  obtain ⟨x17, e18, hf⟩ := ob hf
  refine ml_getQ dX4_open_35 fl_RX4_18 rfl e18 ?_
  refine mw_iconst (v := 0) dX4_open_38 (by decide) ?_
  refine mw_sipush (v := 624) dX4_open_39 (by decide) ?_
  obtain ⟨h19, e20, hf⟩ := ob hf
  refine ml_copy dX4_open_42 lk_RX4_57 cp_nt cp_st cp_in (Nat.le_of_ble_eq_true rfl) e20 ?_
  refine mw_iload_n (x := v3) dX4_open_45 rfl ?_
  obtain ⟨w30, h31, r32, hf⟩ := ob1 hf
  have J45 : MW E m_X4_open (d + 1) mc ms 60 [some (vq (some a0)), none, none, none] [vq w30] h31 K := by
    refine mw_iconst (v := 0) dX4_open_60 (by decide) ?_
    refine mw_aload_n (x := (some a0)) dX4_open_61 rfl ?_
    obtain ⟨x33, e34, hf⟩ := ob hf
    refine ml_getQ dX4_open_62 fl_RX4_18 rfl e34 ?_
    refine mw_iconst (v := 0) dX4_open_65 (by decide) ?_
    refine mw_bipush (v := 104) dX4_open_66 (by decide) ?_
    obtain ⟨h35, e36, hf⟩ := ob hf
    refine ml_copy dX4_open_68 lk_RX4_57 cp_nt cp_st cp_in (Nat.le_of_ble_eq_true rfl) e36 ?_
    refine mw_aload_n (x := (some a0)) dX4_open_71 rfl ?_
    obtain ⟨x37, e38, hf⟩ := ob hf
    refine ml_getQ dX4_open_72 fl_RX4_22 rfl e38 ?_
    refine mw_iconst (v := (-1)) dX4_open_75 (by decide) ?_
    obtain ⟨h39, e40, hf⟩ := ob hf
    refine ml_callS (mc' := 0) (ms' := 0) [vq x37, vi ((-1) : Int32)] dX4_open_76 mk_J7_fill_53178 lk_RX4_69 st_J7_fill_53178 rfl (Nat.le_of_ble_eq_true rfl) (Nat.le_of_ble_eq_true rfl) (t_J7_fill_53178 E _ e40 isR_rfl) ?_
    refine mw_aload_n (x := (some a0)) dX4_open_79 rfl ?_
    obtain ⟨x41, e42, hf⟩ := ob hf
    refine ml_getQ dX4_open_80 fl_RX4_25 rfl e42 ?_
    refine mw_iconst (v := (-1)) dX4_open_83 (by decide) ?_
    obtain ⟨h43, e44, hf⟩ := ob hf
    refine ml_callS (mc' := 0) (ms' := 0) [vq x41, vi ((-1) : Int32)] dX4_open_84 mk_J7_fill_53178 lk_RX4_69 st_J7_fill_53178 rfl (Nat.le_of_ble_eq_true rfl) (Nat.le_of_ble_eq_true rfl) (t_J7_fill_53178 E _ e44 isR_rfl) ?_
    obtain rfl := y0 hf
    exact mw_return dX4_open_87 rfl hk
  refine mw_if_eq (tgt := 56) dX4_open_46 rfl (fun c21 => ?_) (fun c21 => ?_)
  · rw [if_pos c21] at r32
    refine mw_aload_n (x := q2) dX4_open_56 rfl ?_
    obtain ⟨x26, e27, r32⟩ := ob r32
    refine ml_getQ dX4_open_57 fl_RX4_66 rfl e27 ?_
    obtain ⟨rfl, rfl⟩ := y1 r32
    exact MW.sub (subL_s (subL_n (subL_n (subL_n subL_nil)))) J45
  · rw [if_neg c21] at r32
    refine mw_aload_n (x := q2) dX4_open_49 rfl ?_
    obtain ⟨x28, e29, r32⟩ := ob r32
    refine ml_getQ dX4_open_50 fl_RX4_63 rfl e29 ?_
    refine mw_goto (tgt := 60) dX4_open_53 rfl ?_
    obtain ⟨rfl, rfl⟩ := y1 r32
    exact MW.sub (subL_s (subL_n (subL_n (subL_n subL_nil)))) J45
def f_X8_shelfAt (a0 : Nat) (v1 : Int32) (h : Hp) : Option (Option Nat × Hp) :=
  b1 ((if v1 < (0 : Int32) then
      some (none, h)
    else
      (getQ h (some a0) 7 1).bind fun x11 =>
      (aln h x11 13).bind fun x13 =>
      if x13 ≤ v1 then
        some (none, h)
      else
        (getQ h (some a0) 7 1).bind fun x16 =>
        (rdQ h x16 13 v1).bind fun x18 =>
        some (x18, h) : Option (Option Nat × Hp))) fun w20 h21 =>
  some (w20, h21)
set_option maxHeartbeats 4000000 in
theorem t_X8_shelfAt (E : En) (d : Nat) {mc ms : Nat} {a0 : Nat} {v1 : Int32} {h h' : Hp} {r : Option Nat} {K : Option Vv → Hp → Prop} (hf : f_X8_shelfAt a0 v1 h = some (r, h')) (hk : K (some (vq r)) h') : MC E m_X8_shelfAt (d + 0) mc ms [vq (some a0), vi v1] h K := by
  unfold f_X8_shelfAt at hf
  show MW E m_X8_shelfAt (d + 0) mc ms 0 [some (vq (some a0)), some (vi v1)] [] h K
  refine mw_iload_n (x := v1) dX8_shelfAt_0 rfl ?_
  obtain ⟨w20, h21, r22, hf⟩ := ob1 hf
  have J23 : MW E m_X8_shelfAt (d + 0) mc ms 23 [none, none] [vq w20] h21 K := by
    obtain ⟨rfl, rfl⟩ := y1 hf
    exact mw_areturn dX8_shelfAt_23 rfl (Or.inl ⟨_, rfl⟩) hk
  refine mw_if_lt (tgt := 22) dX8_shelfAt_1 rfl (fun c1 => ?_) (fun c1 => ?_)
  · rw [if_pos c1] at r22
    refine mw_null dX8_shelfAt_22 ?_
    obtain ⟨rfl, rfl⟩ := y1 r22
    exact MW.sub (subL_n (subL_n subL_nil)) J23
  · rw [if_neg c1] at r22
    refine mw_iload_n (x := v1) dX8_shelfAt_4 rfl ?_
    refine mw_aload_n (x := (some a0)) dX8_shelfAt_5 rfl ?_
    obtain ⟨x11, e12, r22⟩ := ob r22
    refine ml_getQ dX8_shelfAt_6 fl_RX8_18 rfl e12 ?_
    obtain ⟨x13, e14, r22⟩ := ob r22
    refine ml_alen dX8_shelfAt_9 e14 (by decide) (by decide) ?_
    refine mw_icmp_ge (tgt := 22) dX8_shelfAt_10 rfl (fun c15 => ?_) (fun c15 => ?_)
    · rw [if_pos c15] at r22
      refine mw_null dX8_shelfAt_22 ?_
      obtain ⟨rfl, rfl⟩ := y1 r22
      exact MW.sub (subL_n (subL_n subL_nil)) J23
    · rw [if_neg c15] at r22
      refine mw_aload_n (x := (some a0)) dX8_shelfAt_13 rfl ?_
      obtain ⟨x16, e17, r22⟩ := ob r22
      refine ml_getQ dX8_shelfAt_14 fl_RX8_18 rfl e17 ?_
      refine mw_iload_n (x := v1) dX8_shelfAt_17 rfl ?_
      obtain ⟨x18, e19, r22⟩ := ob r22
      refine ml_aald dX8_shelfAt_18 e19 (by decide) (by decide) ?_
      refine mw_goto (tgt := 23) dX8_shelfAt_19 rfl ?_
      obtain ⟨rfl, rfl⟩ := y1 r22
      exact MW.sub (subL_n (subL_n subL_nil)) J23
def f_X8_about (a0 : Nat) (v1 : Int32) (h : Hp) : Option (Int32 × Hp) :=
  if v1.toInt < 0 ∨ 3 < v1.toInt then
    b1 (f_X8_within v1 (10 : Int32) (13 : Int32) h) fun x13 h11 =>
    b1 ((if x13 = (0 : Int32) then
        some (none, h11)
      else
        (rc h11 (some a0) 7).bind fun g22 =>
        b1 (f_X8_shelfAt g22 (v1 - (10 : Int32)) h11) fun x24 h20 =>
        some (x24, h20) : Option (Option Nat × Hp))) fun w25 h26 =>
    b1 ((if w25 = none then
        some ((-1), h26)
      else
        (getI h26 w25 0 5).bind fun x31 =>
        some (x31, h26) : Option (Int32 × Hp))) fun w33 h34 =>
    some (w33, h34)
  else if v1 = 0 then
    (getI h (some a0) 7 3).bind fun x1 =>
    some (x1, h)
  else if v1 = 1 then
    (getI h (some a0) 7 5).bind fun x3 =>
    some (x3, h)
  else if v1 = 2 then
    (getI h (some a0) 7 6).bind fun x5 =>
    some (x5, h)
  else if v1 = 3 then
    (getQ h (some a0) 7 0).bind fun x7 =>
    (getI h x7 2 1).bind fun x9 =>
    some (x9, h)
  else none
set_option maxHeartbeats 4000000 in
theorem t_X8_about (E : En) (d : Nat) {mc ms : Nat} {a0 : Nat} {v1 : Int32} {h h' : Hp} {r : Int32} {K : Option Vv → Hp → Prop} (hf : f_X8_about a0 v1 h = some (r, h')) (hk : K (some (vi r)) h') : MC E m_X8_about (d + 1) mc ms [vq (some a0), vi v1] h K := by
  unfold f_X8_about at hf
  show MW E m_X8_about (d + 1) mc ms 0 [some (vq (some a0)), some (vi v1), none] [] h K
  refine mw_iload_n (x := v1) dX8_about_0 rfl ?_
  by_cases c36 : v1.toInt < 0 ∨ 3 < v1.toInt
  · rw [if_pos c36] at hf
    refine mw_tableOut (tgt := 55) dX8_about_1 c36 rfl ?_
    refine mw_iload_n (x := v1) dX8_about_55 rfl ?_
    refine mw_bipush (v := 10) dX8_about_56 (by decide) ?_
    refine mw_bipush (v := 13) dX8_about_58 (by decide) ?_
    obtain ⟨x13, h11, e12, hf⟩ := ob1 hf
    refine ml_callS (mc' := 0) (ms' := 0) [vi v1, vi (10 : Int32), vi (13 : Int32)] dX8_about_60 mk_X8_within lk_RX8_81 st_X8_within rfl (Nat.le_of_ble_eq_true rfl) (Nat.le_of_ble_eq_true rfl) (t_X8_within E _ e12 isR_rfl) ?_
    obtain ⟨w25, h26, r27, hf⟩ := ob1 hf
    have J37 : MW E m_X8_about (d + 1) mc ms 78 [none, none, none] [vq w25] h26 K := by
      refine mw_astore_n dX8_about_78 (by decide) rfl ?_
      refine mw_aload_n (x := w25) dX8_about_79 rfl ?_
      obtain ⟨w33, h34, r35, hf⟩ := ob1 hf
      have J38 : MW E m_X8_about (d + 1) mc ms 91 [none, none, none] [vi w33] h34 K := by
        obtain ⟨rfl, rfl⟩ := y1 hf
        exact mw_ireturn dX8_about_91 rfl rfl hk
      refine mw_ifnonnull (tgt := 87) dX8_about_80 rfl (fun c28 => ?_) (fun c28 => ?_)
      · rw [if_neg c28] at r35
        refine mw_aload_n (x := w25) dX8_about_87 rfl ?_
        obtain ⟨x31, e32, r35⟩ := ob r35
        refine ml_getI dX8_about_88 fl_RX8_75 rfl e32 ?_
        obtain ⟨rfl, rfl⟩ := y1 r35
        exact MW.sub (subL_n (subL_n (subL_n subL_nil))) J38
      · rw [if_pos c28] at r35
        refine mw_iconst (v := (-1)) dX8_about_83 (by decide) ?_
        refine mw_goto (tgt := 91) dX8_about_84 rfl ?_
        obtain ⟨rfl, rfl⟩ := y1 r35
        exact MW.sub (subL_n (subL_n (subL_n subL_nil))) J38
    refine mw_if_eq (tgt := 77) dX8_about_63 rfl (fun c14 => ?_) (fun c14 => ?_)
    · rw [if_pos c14] at r27
      refine mw_null dX8_about_77 ?_
      obtain ⟨rfl, rfl⟩ := y1 r27
      exact MW.sub (subL_n (subL_n (subL_n subL_nil))) J37
    · rw [if_neg c14] at r27
      refine mw_aload_n (x := (some a0)) dX8_about_66 rfl ?_
      refine mw_iload_n (x := v1) dX8_about_67 rfl ?_
      refine mw_bipush (v := 10) dX8_about_68 (by decide) ?_
      refine mw_isub dX8_about_70 ?_
      obtain ⟨g22, e23, r27⟩ := ob r27
      obtain ⟨x24, h20, e21, r27⟩ := ob1 r27
      refine ml_callV (ci := 7) (mc' := 0) (ms' := 0) [vi (v1 - (10 : Int32))] dX8_about_71 mk_X8_shelfAt lk_RX8_216 im_X8_shelfAt se_X8_shelfAt (by decide) e23 rfl (Nat.le_of_ble_eq_true rfl) (Nat.le_of_ble_eq_true rfl) (t_X8_shelfAt E _ e21 isR_rfl) ?_
      refine mw_goto (tgt := 78) dX8_about_74 rfl ?_
      obtain ⟨rfl, rfl⟩ := y1 r27
      exact MW.sub (subL_n (subL_n (subL_n subL_nil))) J37
  rw [if_neg c36] at hf
  by_cases c36 : v1 = 0
  · rw [if_pos c36] at hf
    refine ml_tableIn (v := 0) (tgt := 32) dX8_about_1 c36 (by decide) (by decide) rfl rfl ?_
    refine mw_aload_n (x := (some a0)) dX8_about_32 rfl ?_
    obtain ⟨x1, e2, hf⟩ := ob hf
    refine ml_getI dX8_about_33 fl_RX8_85 rfl e2 ?_
    obtain ⟨rfl, rfl⟩ := y1 hf
    exact mw_ireturn dX8_about_36 rfl rfl hk
  rw [if_neg c36] at hf
  by_cases c36 : v1 = 1
  · rw [if_pos c36] at hf
    refine ml_tableIn (v := 1) (tgt := 37) dX8_about_1 c36 (by decide) (by decide) rfl rfl ?_
    refine mw_aload_n (x := (some a0)) dX8_about_37 rfl ?_
    obtain ⟨x3, e4, hf⟩ := ob hf
    refine ml_getI dX8_about_38 fl_RX8_111 rfl e4 ?_
    obtain ⟨rfl, rfl⟩ := y1 hf
    exact mw_ireturn dX8_about_41 rfl rfl hk
  rw [if_neg c36] at hf
  by_cases c36 : v1 = 2
  · rw [if_pos c36] at hf
    refine ml_tableIn (v := 2) (tgt := 42) dX8_about_1 c36 (by decide) (by decide) rfl rfl ?_
    refine mw_aload_n (x := (some a0)) dX8_about_42 rfl ?_
    obtain ⟨x5, e6, hf⟩ := ob hf
    refine ml_getI dX8_about_43 fl_RX8_114 rfl e6 ?_
    obtain ⟨rfl, rfl⟩ := y1 hf
    exact mw_ireturn dX8_about_46 rfl rfl hk
  rw [if_neg c36] at hf
  by_cases c36 : v1 = 3
  · rw [if_pos c36] at hf
    refine ml_tableIn (v := 3) (tgt := 47) dX8_about_1 c36 (by decide) (by decide) rfl rfl ?_
    refine mw_aload_n (x := (some a0)) dX8_about_47 rfl ?_
    obtain ⟨x7, e8, hf⟩ := ob hf
    refine ml_getQ dX8_about_48 fl_RX8_10 rfl e8 ?_
    obtain ⟨x9, e10, hf⟩ := ob hf
    refine ml_getI dX8_about_51 fl_RX8_60 rfl e10 ?_
    obtain ⟨rfl, rfl⟩ := y1 hf
    exact mw_ireturn dX8_about_54 rfl rfl hk
  rw [if_neg c36] at hf
  cases hf
def f_X8_factAt (a0 : Nat) (v1 : Int32) (h : Hp) : Option (Option Nat × Hp) :=
  b1 ((if v1 < (0 : Int32) then
      some (none, h)
    else
      (getI h (some a0) 7 5).bind fun x14 =>
      if x14 ≤ v1 then
        some (none, h)
      else
        (getQ h (some a0) 7 4).bind fun x17 =>
        (aln h x17 14).bind fun x19 =>
        if x19 ≤ v1 then
          some (none, h)
        else
          (getQ h (some a0) 7 4).bind fun x22 =>
          (rdQ h x22 14 v1).bind fun x24 =>
          some (x24, h) : Option (Option Nat × Hp))) fun w26 h27 =>
  some (w26, h27)
set_option maxHeartbeats 4000000 in
theorem t_X8_factAt (E : En) (d : Nat) {mc ms : Nat} {a0 : Nat} {v1 : Int32} {h h' : Hp} {r : Option Nat} {K : Option Vv → Hp → Prop} (hf : f_X8_factAt a0 v1 h = some (r, h')) (hk : K (some (vq r)) h') : MC E m_X8_factAt (d + 0) mc ms [vq (some a0), vi v1] h K := by
  unfold f_X8_factAt at hf
  show MW E m_X8_factAt (d + 0) mc ms 0 [some (vq (some a0)), some (vi v1)] [] h K
  refine mw_iload_n (x := v1) dX8_factAt_0 rfl ?_
  obtain ⟨w26, h27, r28, hf⟩ := ob1 hf
  have J29 : MW E m_X8_factAt (d + 0) mc ms 31 [none, none] [vq w26] h27 K := by
    obtain ⟨rfl, rfl⟩ := y1 hf
    exact mw_areturn dX8_factAt_31 rfl (Or.inl ⟨_, rfl⟩) hk
  refine mw_if_lt (tgt := 30) dX8_factAt_1 rfl (fun c1 => ?_) (fun c1 => ?_)
  · rw [if_pos c1] at r28
    refine mw_null dX8_factAt_30 ?_
    obtain ⟨rfl, rfl⟩ := y1 r28
    exact MW.sub (subL_n (subL_n subL_nil)) J29
  · rw [if_neg c1] at r28
    refine mw_iload_n (x := v1) dX8_factAt_4 rfl ?_
    refine mw_aload_n (x := (some a0)) dX8_factAt_5 rfl ?_
    obtain ⟨x14, e15, r28⟩ := ob r28
    refine ml_getI dX8_factAt_6 fl_RX8_111 rfl e15 ?_
    refine mw_icmp_ge (tgt := 30) dX8_factAt_9 rfl (fun c16 => ?_) (fun c16 => ?_)
    · rw [if_pos c16] at r28
      refine mw_null dX8_factAt_30 ?_
      obtain ⟨rfl, rfl⟩ := y1 r28
      exact MW.sub (subL_n (subL_n subL_nil)) J29
    · rw [if_neg c16] at r28
      refine mw_iload_n (x := v1) dX8_factAt_12 rfl ?_
      refine mw_aload_n (x := (some a0)) dX8_factAt_13 rfl ?_
      obtain ⟨x17, e18, r28⟩ := ob r28
      refine ml_getQ dX8_factAt_14 fl_RX8_30 rfl e18 ?_
      obtain ⟨x19, e20, r28⟩ := ob r28
      refine ml_alen dX8_factAt_17 e20 (by decide) (by decide) ?_
      refine mw_icmp_ge (tgt := 30) dX8_factAt_18 rfl (fun c21 => ?_) (fun c21 => ?_)
      · rw [if_pos c21] at r28
        refine mw_null dX8_factAt_30 ?_
        obtain ⟨rfl, rfl⟩ := y1 r28
        exact MW.sub (subL_n (subL_n subL_nil)) J29
      · rw [if_neg c21] at r28
        refine mw_aload_n (x := (some a0)) dX8_factAt_21 rfl ?_
        obtain ⟨x22, e23, r28⟩ := ob r28
        refine ml_getQ dX8_factAt_22 fl_RX8_30 rfl e23 ?_
        refine mw_iload_n (x := v1) dX8_factAt_25 rfl ?_
        obtain ⟨x24, e25, r28⟩ := ob r28
        refine ml_aald dX8_factAt_26 e25 (by decide) (by decide) ?_
        refine mw_goto (tgt := 31) dX8_factAt_27 rfl ?_
        obtain ⟨rfl, rfl⟩ := y1 r28
        exact MW.sub (subL_n (subL_n subL_nil)) J29
def f_X8_factOf (a0 : Nat) (v1 : Int32) (v2 : Int32) (h : Hp) : Option (Option Nat × Hp) :=
  (rc h (some a0) 7).bind fun g3 =>
  b1 (f_X8_factAt g3 v2 h) fun x5 h1 =>
  b1 ((if x5 = none then
      some (none, h1)
    else
      (getI h1 x5 1 1).bind fun x10 =>
      if x10 = v1 then
        some (x5, h1)
      else
        some (none, h1) : Option (Option Nat × Hp))) fun w13 h14 =>
  some (w13, h14)
set_option maxHeartbeats 4000000 in
theorem t_X8_factOf (E : En) (d : Nat) {mc ms : Nat} {a0 : Nat} {v1 : Int32} {v2 : Int32} {h h' : Hp} {r : Option Nat} {K : Option Vv → Hp → Prop} (hf : f_X8_factOf a0 v1 v2 h = some (r, h')) (hk : K (some (vq r)) h') : MC E m_X8_factOf (d + 1) mc ms [vq (some a0), vi v1, vi v2] h K := by
  unfold f_X8_factOf at hf
  show MW E m_X8_factOf (d + 1) mc ms 0 [some (vq (some a0)), some (vi v1), some (vi v2), none] [] h K
  refine mw_aload_n (x := (some a0)) dX8_factOf_0 rfl ?_
  refine mw_iload_n (x := v2) dX8_factOf_1 rfl ?_
  obtain ⟨g3, e4, hf⟩ := ob hf
  obtain ⟨x5, h1, e2, hf⟩ := ob1 hf
  refine ml_callV (ci := 7) (mc' := 0) (ms' := 0) [vi v2] dX8_factOf_2 mk_X8_factAt lk_RX8_130 im_X8_factAt se_X8_factAt (by decide) e4 rfl (Nat.le_of_ble_eq_true rfl) (Nat.le_of_ble_eq_true rfl) (t_X8_factAt E _ e2 isR_rfl) ?_
  refine mw_astore_n dX8_factOf_5 (by decide) rfl ?_
  refine mw_aload_n (x := x5) dX8_factOf_6 rfl ?_
  obtain ⟨w13, h14, r15, hf⟩ := ob1 hf
  have J16 : MW E m_X8_factOf (d + 1) mc ms 23 [none, none, none, none] [vq w13] h14 K := by
    obtain ⟨rfl, rfl⟩ := y1 hf
    exact mw_areturn dX8_factOf_23 rfl (Or.inl ⟨_, rfl⟩) hk
  refine mw_ifnull (tgt := 22) dX8_factOf_7 rfl (fun c6 => ?_) (fun c6 => ?_)
  · rw [if_pos c6] at r15
    refine mw_null dX8_factOf_22 ?_
    obtain ⟨rfl, rfl⟩ := y1 r15
    exact MW.sub (subL_n (subL_n (subL_n (subL_n subL_nil)))) J16
  · rw [if_neg c6] at r15
    refine mw_aload_n (x := x5) dX8_factOf_10 rfl ?_
    obtain ⟨x10, e11, r15⟩ := ob r15
    refine ml_getI dX8_factOf_11 fl_RX8_235 rfl e11 ?_
    refine mw_iload_n (x := v1) dX8_factOf_14 rfl ?_
    refine mw_icmp_ne (tgt := 22) dX8_factOf_15 rfl (fun c12 => ?_) (fun c12 => ?_)
    · rw [if_neg c12] at r15
      refine mw_null dX8_factOf_22 ?_
      obtain ⟨rfl, rfl⟩ := y1 r15
      exact MW.sub (subL_n (subL_n (subL_n (subL_n subL_nil)))) J16
    · rw [if_pos c12] at r15
      refine mw_aload_n (x := x5) dX8_factOf_18 rfl ?_
      refine mw_goto (tgt := 23) dX8_factOf_19 rfl ?_
      obtain ⟨rfl, rfl⟩ := y1 r15
      exact MW.sub (subL_n (subL_n (subL_n (subL_n subL_nil)))) J16
def f_X8_workerAt (a0 : Nat) (v1 : Int32) (h : Hp) : Option (Option Nat × Hp) :=
  b1 ((if v1 < (0 : Int32) then
      some (none, h)
    else
      (getI h (some a0) 7 3).bind fun x14 =>
      if x14 ≤ v1 then
        some (none, h)
      else
        (getQ h (some a0) 7 2).bind fun x17 =>
        (aln h x17 16).bind fun x19 =>
        if x19 ≤ v1 then
          some (none, h)
        else
          (getQ h (some a0) 7 2).bind fun x22 =>
          (rdQ h x22 16 v1).bind fun x24 =>
          some (x24, h) : Option (Option Nat × Hp))) fun w26 h27 =>
  some (w26, h27)
set_option maxHeartbeats 4000000 in
theorem t_X8_workerAt (E : En) (d : Nat) {mc ms : Nat} {a0 : Nat} {v1 : Int32} {h h' : Hp} {r : Option Nat} {K : Option Vv → Hp → Prop} (hf : f_X8_workerAt a0 v1 h = some (r, h')) (hk : K (some (vq r)) h') : MC E m_X8_workerAt (d + 0) mc ms [vq (some a0), vi v1] h K := by
  unfold f_X8_workerAt at hf
  show MW E m_X8_workerAt (d + 0) mc ms 0 [some (vq (some a0)), some (vi v1)] [] h K
  refine mw_iload_n (x := v1) dX8_workerAt_0 rfl ?_
  obtain ⟨w26, h27, r28, hf⟩ := ob1 hf
  have J29 : MW E m_X8_workerAt (d + 0) mc ms 31 [none, none] [vq w26] h27 K := by
    obtain ⟨rfl, rfl⟩ := y1 hf
    exact mw_areturn dX8_workerAt_31 rfl (Or.inl ⟨_, rfl⟩) hk
  refine mw_if_lt (tgt := 30) dX8_workerAt_1 rfl (fun c1 => ?_) (fun c1 => ?_)
  · rw [if_pos c1] at r28
    refine mw_null dX8_workerAt_30 ?_
    obtain ⟨rfl, rfl⟩ := y1 r28
    exact MW.sub (subL_n (subL_n subL_nil)) J29
  · rw [if_neg c1] at r28
    refine mw_iload_n (x := v1) dX8_workerAt_4 rfl ?_
    refine mw_aload_n (x := (some a0)) dX8_workerAt_5 rfl ?_
    obtain ⟨x14, e15, r28⟩ := ob r28
    refine ml_getI dX8_workerAt_6 fl_RX8_85 rfl e15 ?_
    refine mw_icmp_ge (tgt := 30) dX8_workerAt_9 rfl (fun c16 => ?_) (fun c16 => ?_)
    · rw [if_pos c16] at r28
      refine mw_null dX8_workerAt_30 ?_
      obtain ⟨rfl, rfl⟩ := y1 r28
      exact MW.sub (subL_n (subL_n subL_nil)) J29
    · rw [if_neg c16] at r28
      refine mw_iload_n (x := v1) dX8_workerAt_12 rfl ?_
      refine mw_aload_n (x := (some a0)) dX8_workerAt_13 rfl ?_
      obtain ⟨x17, e18, r28⟩ := ob r28
      refine ml_getQ dX8_workerAt_14 fl_RX8_24 rfl e18 ?_
      obtain ⟨x19, e20, r28⟩ := ob r28
      refine ml_alen dX8_workerAt_17 e20 (by decide) (by decide) ?_
      refine mw_icmp_ge (tgt := 30) dX8_workerAt_18 rfl (fun c21 => ?_) (fun c21 => ?_)
      · rw [if_pos c21] at r28
        refine mw_null dX8_workerAt_30 ?_
        obtain ⟨rfl, rfl⟩ := y1 r28
        exact MW.sub (subL_n (subL_n subL_nil)) J29
      · rw [if_neg c21] at r28
        refine mw_aload_n (x := (some a0)) dX8_workerAt_21 rfl ?_
        obtain ⟨x22, e23, r28⟩ := ob r28
        refine ml_getQ dX8_workerAt_22 fl_RX8_24 rfl e23 ?_
        refine mw_iload_n (x := v1) dX8_workerAt_25 rfl ?_
        obtain ⟨x24, e25, r28⟩ := ob r28
        refine ml_aald dX8_workerAt_26 e25 (by decide) (by decide) ?_
        refine mw_goto (tgt := 31) dX8_workerAt_27 rfl ?_
        obtain ⟨rfl, rfl⟩ := y1 r28
        exact MW.sub (subL_n (subL_n subL_nil)) J29
def f_X8_openSheet (a0 : Nat) (v1 : Int32) (v2 : Int32) (v3 : Int32) (v4 : Int32) (h : Hp) : Option (Int32 × Hp) :=
  (rc h (some a0) 7).bind fun g3 =>
  b1 (f_X8_shelfAt g3 v1 h) fun x5 h1 =>
  (rc h1 (some a0) 7).bind fun g8 =>
  b1 (f_X8_workerAt g8 v2 h1) fun x10 h6 =>
  if x5 = none then
    some (0, h6)
  else
    if x10 = none then
      some (0, h6)
    else
      (getQ h6 (some a0) 7 7).bind fun x13 =>
      (rc h6 x10 6).bind fun g17 =>
      (f_X7_layOut g17 v4 x13 h6).bind fun h15 =>
      (getQ h15 (some a0) 7 8).bind fun x19 =>
      (rc h15 x19 4).bind fun g23 =>
      (f_X4_open g23 x5 x10 v3 h15).bind fun h21 =>
      some (1, h21)
set_option maxHeartbeats 4000000 in
theorem t_X8_openSheet (E : En) (d : Nat) {mc ms : Nat} {a0 : Nat} {v1 : Int32} {v2 : Int32} {v3 : Int32} {v4 : Int32} {h h' : Hp} {r : Int32} {K : Option Vv → Hp → Prop} (hf : f_X8_openSheet a0 v1 v2 v3 v4 h = some (r, h')) (hk : K (some (vi r)) h') : MC E m_X8_openSheet (d + 5) mc ms [vq (some a0), vi v1, vi v2, vi v3, vi v4] h K := by
  unfold f_X8_openSheet at hf
  show MW E m_X8_openSheet (d + 5) mc ms 0 [some (vq (some a0)), some (vi v1), some (vi v2), some (vi v3), some (vi v4), none, none] [] h K
  refine mw_aload_n (x := (some a0)) dX8_openSheet_0 rfl ?_
  refine mw_iload_n (x := v1) dX8_openSheet_1 rfl ?_
  obtain ⟨g3, e4, hf⟩ := ob hf
  obtain ⟨x5, h1, e2, hf⟩ := ob1 hf
  refine ml_callV (ci := 7) (mc' := 0) (ms' := 0) [vi v1] dX8_openSheet_2 mk_X8_shelfAt lk_RX8_216 im_X8_shelfAt se_X8_shelfAt (by decide) e4 rfl (Nat.le_of_ble_eq_true rfl) (Nat.le_of_ble_eq_true rfl) (t_X8_shelfAt E _ e2 isR_rfl) ?_
  refine mw_astore dX8_openSheet_5 (by decide) rfl ?_
  refine mw_aload_n (x := (some a0)) dX8_openSheet_7 rfl ?_
  refine mw_iload_n (x := v2) dX8_openSheet_8 rfl ?_
  obtain ⟨g8, e9, hf⟩ := ob hf
  obtain ⟨x10, h6, e7, hf⟩ := ob1 hf
  refine ml_callV (ci := 7) (mc' := 0) (ms' := 0) [vi v2] dX8_openSheet_9 mk_X8_workerAt lk_RX8_99 im_X8_workerAt se_X8_workerAt (by decide) e9 rfl (Nat.le_of_ble_eq_true rfl) (Nat.le_of_ble_eq_true rfl) (t_X8_workerAt E _ e7 isR_rfl) ?_
  refine mw_astore dX8_openSheet_12 (by decide) rfl ?_
  refine mw_aload (x := x5) dX8_openSheet_14 rfl ?_
  refine mw_ifnull (tgt := 24) dX8_openSheet_16 rfl (fun c11 => ?_) (fun c11 => ?_)
  · rw [if_pos c11] at hf
    refine mw_iconst (v := 0) dX8_openSheet_24 (by decide) ?_
    obtain ⟨rfl, rfl⟩ := y1 hf
    exact mw_ireturn dX8_openSheet_25 rfl rfl hk
  · rw [if_neg c11] at hf
    refine mw_aload (x := x10) dX8_openSheet_19 rfl ?_
    refine mw_ifnonnull (tgt := 26) dX8_openSheet_21 rfl (fun c12 => ?_) (fun c12 => ?_)
    · rw [if_neg c12] at hf
      refine mw_aload (x := x10) dX8_openSheet_26 rfl ?_
      refine mw_iload (x := v4) dX8_openSheet_28 rfl ?_
      refine mw_aload_n (x := (some a0)) dX8_openSheet_30 rfl ?_
      obtain ⟨x13, e14, hf⟩ := ob hf
      refine ml_getQ dX8_openSheet_31 fl_RX8_37 rfl e14 ?_
      obtain ⟨g17, e18, hf⟩ := ob hf
      obtain ⟨h15, e16, hf⟩ := ob hf
      refine ml_callV (ci := 6) (mc' := 0) (ms' := 0) [vi v4, vq x13] dX8_openSheet_34 mk_X7_layOut lk_RX8_142 im_X7_layOut se_X7_layOut (by decide) e18 rfl (Nat.le_of_ble_eq_true rfl) (Nat.le_of_ble_eq_true rfl) (t_X7_layOut E _ e16 isR_rfl) ?_
      refine mw_aload_n (x := (some a0)) dX8_openSheet_37 rfl ?_
      obtain ⟨x19, e20, hf⟩ := ob hf
      refine ml_getQ dX8_openSheet_38 fl_RX8_44 rfl e20 ?_
      refine mw_aload (x := x5) dX8_openSheet_41 rfl ?_
      refine mw_aload (x := x10) dX8_openSheet_43 rfl ?_
      refine mw_iload_n (x := v3) dX8_openSheet_45 rfl ?_
      obtain ⟨g23, e24, hf⟩ := ob hf
      obtain ⟨h21, e22, hf⟩ := ob hf
      refine ml_callV (ci := 4) (mc' := 0) (ms' := 0) [vq x5, vq x10, vi v3] dX8_openSheet_46 mk_X4_open lk_RX8_238 im_X4_open se_X4_open (by decide) e24 rfl (Nat.le_of_ble_eq_true rfl) (Nat.le_of_ble_eq_true rfl) (t_X4_open E _ e22 isR_rfl) ?_
      refine mw_iconst (v := 1) dX8_openSheet_49 (by decide) ?_
      obtain ⟨rfl, rfl⟩ := y1 hf
      exact mw_ireturn dX8_openSheet_50 rfl rfl hk
    · rw [if_pos c12] at hf
      refine mw_iconst (v := 0) dX8_openSheet_24 (by decide) ?_
      obtain ⟨rfl, rfl⟩ := y1 hf
      exact mw_ireturn dX8_openSheet_25 rfl rfl hk
def f_X8_average (a0 : Nat) (v1 : Int32) (v2 : Int32) (v3 : Int32) (v4 : Int32) (h : Hp) : Option (Int32 × Hp) :=
  (rc h (some a0) 7).bind fun g3 =>
  b1 (f_X8_factOf g3 (3 : Int32) v2 h) fun x5 h1 =>
  if x5 = none then
    some ((-1), h1)
  else
    (getI h1 x5 1 6).bind fun x7 =>
    (rc h1 (some a0) 7).bind fun g11 =>
    b1 (f_X8_openSheet g11 v1 x7 v3 v4 h1) fun x13 h9 =>
    if x13 = (0 : Int32) then
      some ((-1), h9)
    else
      (getQ h9 (some a0) 7 8).bind fun x15 =>
      (getI h9 x5 1 2).bind fun x17 =>
      (rc h9 x15 4).bind fun g21 =>
      b1 (f_X4_averageFor g21 x17 h9) fun x23 h19 =>
      some (x23, h19)
set_option maxHeartbeats 4000000 in
theorem t_X8_average (E : En) (d : Nat) {mc ms : Nat} {a0 : Nat} {v1 : Int32} {v2 : Int32} {v3 : Int32} {v4 : Int32} {h h' : Hp} {r : Int32} {K : Option Vv → Hp → Prop} (hf : f_X8_average a0 v1 v2 v3 v4 h = some (r, h')) (hk : K (some (vi r)) h') : MC E m_X8_average (d + 6) mc ms [vq (some a0), vi v1, vi v2, vi v3, vi v4] h K := by
  unfold f_X8_average at hf
  show MW E m_X8_average (d + 6) mc ms 0 [some (vq (some a0)), some (vi v1), some (vi v2), some (vi v3), some (vi v4), none] [] h K
  refine mw_aload_n (x := (some a0)) dX8_average_0 rfl ?_
  refine mw_iconst (v := 3) dX8_average_1 (by decide) ?_
  refine mw_iload_n (x := v2) dX8_average_2 rfl ?_
  obtain ⟨g3, e4, hf⟩ := ob hf
  obtain ⟨x5, h1, e2, hf⟩ := ob1 hf
  refine ml_callV (ci := 7) (mc' := 0) (ms' := 0) [vi (3 : Int32), vi v2] dX8_average_3 mk_X8_factOf lk_RX8_170 im_X8_factOf se_X8_factOf (by decide) e4 rfl (Nat.le_of_ble_eq_true rfl) (Nat.le_of_ble_eq_true rfl) (t_X8_factOf E _ e2 isR_rfl) ?_
  refine mw_astore dX8_average_6 (by decide) rfl ?_
  refine mw_aload (x := x5) dX8_average_8 rfl ?_
  refine mw_ifnull (tgt := 29) dX8_average_10 rfl (fun c6 => ?_) (fun c6 => ?_)
  · rw [if_pos c6] at hf
    refine mw_iconst (v := (-1)) dX8_average_29 (by decide) ?_
    obtain ⟨rfl, rfl⟩ := y1 hf
    exact mw_ireturn dX8_average_30 rfl rfl hk
  · rw [if_neg c6] at hf
    refine mw_aload_n (x := (some a0)) dX8_average_13 rfl ?_
    refine mw_iload_n (x := v1) dX8_average_14 rfl ?_
    refine mw_aload (x := x5) dX8_average_15 rfl ?_
    obtain ⟨x7, e8, hf⟩ := ob hf
    refine ml_getI dX8_average_17 fl_RX8_120 rfl e8 ?_
    refine mw_iload_n (x := v3) dX8_average_20 rfl ?_
    refine mw_iload (x := v4) dX8_average_21 rfl ?_
    obtain ⟨g11, e12, hf⟩ := ob hf
    obtain ⟨x13, h9, e10, hf⟩ := ob1 hf
    refine ml_callV (ci := 7) (mc' := 0) (ms' := 0) [vi v1, vi x7, vi v3, vi v4] dX8_average_23 mk_X8_openSheet lk_RX8_159 im_X8_openSheet se_X8_openSheet (by decide) e12 rfl (Nat.le_of_ble_eq_true rfl) (Nat.le_of_ble_eq_true rfl) (t_X8_openSheet E _ e10 isR_rfl) ?_
    refine mw_if_ne (tgt := 31) dX8_average_26 rfl (fun c14 => ?_) (fun c14 => ?_)
    · rw [if_neg c14] at hf
      refine mw_aload_n (x := (some a0)) dX8_average_31 rfl ?_
      obtain ⟨x15, e16, hf⟩ := ob hf
      refine ml_getQ dX8_average_32 fl_RX8_44 rfl e16 ?_
      refine mw_aload (x := x5) dX8_average_35 rfl ?_
      obtain ⟨x17, e18, hf⟩ := ob hf
      refine ml_getI dX8_average_37 fl_RX8_174 rfl e18 ?_
      obtain ⟨g21, e22, hf⟩ := ob hf
      obtain ⟨x23, h19, e20, hf⟩ := ob1 hf
      refine ml_callV (ci := 4) (mc' := 0) (ms' := 0) [vi x17] dX8_average_40 mk_X4_averageFor lk_RX8_177 im_X4_averageFor se_X4_averageFor (by decide) e22 rfl (Nat.le_of_ble_eq_true rfl) (Nat.le_of_ble_eq_true rfl) (t_X4_averageFor E _ e20 isR_rfl) ?_
      obtain ⟨rfl, rfl⟩ := y1 hf
      exact mw_ireturn dX8_average_43 rfl rfl hk
    · rw [if_pos c14] at hf
      refine mw_iconst (v := (-1)) dX8_average_29 (by decide) ?_
      obtain ⟨rfl, rfl⟩ := y1 hf
      exact mw_ireturn dX8_average_30 rfl rfl hk
def f_X8_tell (a0 : Nat) (v1 : Int32) (v2 : Int32) (v3 : Int32) (v4 : Int32) (v5 : Int32) (h : Hp) : Option (Int32 × Hp) :=
  (rc h (some a0) 7).bind fun g3 =>
  b1 (f_X8_workerAt g3 v2 h) fun x5 h1 =>
  if x5 = none then
    some ((-1), h1)
  else
    (getI h1 (some a0) 7 5).bind fun x7 =>
    if x7 < (0 : Int32) then
      some ((-1), h1)
    else
      (getI h1 (some a0) 7 5).bind fun x10 =>
      (getQ h1 (some a0) 7 4).bind fun x12 =>
      (aln h1 x12 14).bind fun x14 =>
      if x10 < x14 then
        (getI (nw h1 1 0) (some a0) 7 5).bind fun x17 =>
        (getI (nw h1 1 0) (some a0) 7 6).bind fun x19 =>
        (rc (nw h1 1 0) (some h1.1.length) 1).bind fun g23 =>
        (f_X1_init g23 x17 v1 v3 v4 v5 x19 (nw h1 1 0)).bind fun h21 =>
        (putI h21 (some h1.1.length) 1 6 v2).bind fun h25 =>
        (getQ h25 (some a0) 7 4).bind fun x27 =>
        (getI h25 (some a0) 7 5).bind fun x29 =>
        (wrQ h25 x27 14 x29 (some h1.1.length)).bind fun h31 =>
        (getI h31 (some a0) 7 5).bind fun x33 =>
        (putI h31 (some a0) 7 5 (x33 + (1 : Int32))).bind fun h35 =>
        (rc h35 x5 6).bind fun g39 =>
        (f_X7_keep g39 (some h1.1.length) h35).bind fun h37 =>
        (getI h37 (some h1.1.length) 1 0).bind fun x41 =>
        some (x41, h37)
      else
        some ((-1), h1)
set_option maxHeartbeats 4000000 in
theorem t_X8_tell (E : En) (d : Nat) {a0 : Nat} {v1 : Int32} {v2 : Int32} {v3 : Int32} {v4 : Int32} {v5 : Int32} {h h' : Hp} {r : Int32} {K : Option Vv → Hp → Prop} (hf : f_X8_tell a0 v1 v2 v3 v4 v5 h = some (r, h')) (hk : K (some (vi r)) h') : MC E m_X8_tell (d + 2) 1 12 [vq (some a0), vi v1, vi v2, vi v3, vi v4, vi v5] h K := by
  unfold f_X8_tell at hf
  show MW E m_X8_tell (d + 2) 1 12 0 [some (vq (some a0)), some (vi v1), some (vi v2), some (vi v3), some (vi v4), some (vi v5), none, none] [] h K
  refine mw_aload_n (x := (some a0)) dX8_tell_0 rfl ?_
  refine mw_iload_n (x := v2) dX8_tell_1 rfl ?_
  obtain ⟨g3, e4, hf⟩ := ob hf
  obtain ⟨x5, h1, e2, hf⟩ := ob1 hf
  refine ml_callV (ci := 7) (mc := 1) (ms := 12) (mc' := 0) (ms' := 0) [vi v2] dX8_tell_2 mk_X8_workerAt lk_RX8_99 im_X8_workerAt se_X8_workerAt (by decide) e4 rfl (Nat.le_of_ble_eq_true rfl) (Nat.le_of_ble_eq_true rfl) (t_X8_workerAt E _ e2 isR_rfl) ?_
  refine mw_astore dX8_tell_5 (by decide) rfl ?_
  refine mw_aload (x := x5) dX8_tell_7 rfl ?_
  refine mw_ifnull (tgt := 31) dX8_tell_9 rfl (fun c6 => ?_) (fun c6 => ?_)
  · rw [if_pos c6] at hf
    refine mw_iconst (v := (-1)) dX8_tell_31 (by decide) ?_
    obtain ⟨rfl, rfl⟩ := y1 hf
    exact mw_ireturn dX8_tell_32 rfl rfl hk
  · rw [if_neg c6] at hf
    refine mw_aload_n (x := (some a0)) dX8_tell_12 rfl ?_
    obtain ⟨x7, e8, hf⟩ := ob hf
    refine ml_getI dX8_tell_13 fl_RX8_111 rfl e8 ?_
    refine mw_if_lt (tgt := 31) dX8_tell_16 rfl (fun c9 => ?_) (fun c9 => ?_)
    · rw [if_pos c9] at hf
      refine mw_iconst (v := (-1)) dX8_tell_31 (by decide) ?_
      obtain ⟨rfl, rfl⟩ := y1 hf
      exact mw_ireturn dX8_tell_32 rfl rfl hk
    · rw [if_neg c9] at hf
      refine mw_aload_n (x := (some a0)) dX8_tell_19 rfl ?_
      obtain ⟨x10, e11, hf⟩ := ob hf
      refine ml_getI dX8_tell_20 fl_RX8_111 rfl e11 ?_
      refine mw_aload_n (x := (some a0)) dX8_tell_23 rfl ?_
      obtain ⟨x12, e13, hf⟩ := ob hf
      refine ml_getQ dX8_tell_24 fl_RX8_30 rfl e13 ?_
      obtain ⟨x14, e15, hf⟩ := ob hf
      refine ml_alen dX8_tell_27 e15 (by decide) (by decide) ?_
      refine mw_icmp_lt (tgt := 33) dX8_tell_28 rfl (fun c16 => ?_) (fun c16 => ?_)
      · rw [if_pos c16] at hf
        refine mw_new (ci := 1) (mc := 0) (ms := 0) dX8_tell_33 (by decide) cl_RX8_28 it_1 in_1 ?_
        refine mw_dupq dX8_tell_36 ?_
        refine mw_aload_n (x := (some a0)) dX8_tell_37 rfl ?_
        obtain ⟨x17, e18, hf⟩ := ob hf
        refine ml_getI dX8_tell_38 fl_RX8_111 rfl e18 ?_
        refine mw_iload_n (x := v1) dX8_tell_41 rfl ?_
        refine mw_iload_n (x := v3) dX8_tell_42 rfl ?_
        refine mw_iload (x := v4) dX8_tell_43 rfl ?_
        refine mw_iload (x := v5) dX8_tell_45 rfl ?_
        refine mw_aload_n (x := (some a0)) dX8_tell_47 rfl ?_
        obtain ⟨x19, e20, hf⟩ := ob hf
        refine ml_getI dX8_tell_48 fl_RX8_114 rfl e20 ?_
        obtain ⟨g23, e24, hf⟩ := ob hf
        obtain ⟨h21, e22, hf⟩ := ob hf
        refine ml_callI (mc := 0) (ms := 0) (mc' := 0) (ms' := 0) [vi x17, vi v1, vi v3, vi v4, vi v5, vi x19] dX8_tell_51 mk_X1_init rfl lk_RX8_117 im_X1_init rfl e24 rfl (Nat.le_of_ble_eq_true rfl) (Nat.le_of_ble_eq_true rfl) (t_X1_init E _ e22 isR_rfl) ?_
        refine mw_astore dX8_tell_54 (by decide) rfl ?_
        refine mw_aload (x := (some h1.1.length)) dX8_tell_56 rfl ?_
        refine mw_iload_n (x := v2) dX8_tell_58 rfl ?_
        obtain ⟨h25, e26, hf⟩ := ob hf
        refine ml_putI dX8_tell_59 fl_RX8_120 (Or.inl rfl) rfl rfl e26 ?_
        refine mw_aload_n (x := (some a0)) dX8_tell_62 rfl ?_
        obtain ⟨x27, e28, hf⟩ := ob hf
        refine ml_getQ dX8_tell_63 fl_RX8_30 rfl e28 ?_
        refine mw_aload_n (x := (some a0)) dX8_tell_66 rfl ?_
        obtain ⟨x29, e30, hf⟩ := ob hf
        refine ml_getI dX8_tell_67 fl_RX8_111 rfl e30 ?_
        refine mw_aload (x := (some h1.1.length)) dX8_tell_70 rfl ?_
        obtain ⟨h31, e32, hf⟩ := ob hf
        refine ml_aast dX8_tell_72 e32 (by decide) (by decide) ?_
        refine mw_aload_n (x := (some a0)) dX8_tell_73 rfl ?_
        refine mw_dupq dX8_tell_74 ?_
        obtain ⟨x33, e34, hf⟩ := ob hf
        refine ml_getI dX8_tell_75 fl_RX8_111 rfl e34 ?_
        refine mw_iconst (v := 1) dX8_tell_78 (by decide) ?_
        refine mw_iadd dX8_tell_79 ?_
        obtain ⟨h35, e36, hf⟩ := ob hf
        refine ml_putI dX8_tell_80 fl_RX8_111 (Or.inl rfl) rfl rfl e36 ?_
        refine mw_aload (x := x5) dX8_tell_83 rfl ?_
        refine mw_aload (x := (some h1.1.length)) dX8_tell_85 rfl ?_
        obtain ⟨g39, e40, hf⟩ := ob hf
        obtain ⟨h37, e38, hf⟩ := ob hf
        refine ml_callV (ci := 6) (mc := 0) (ms := 0) (mc' := 0) (ms' := 0) [vq (some h1.1.length)] dX8_tell_87 mk_X7_keep lk_RX8_123 im_X7_keep se_X7_keep (by decide) e40 rfl (Nat.le_of_ble_eq_true rfl) (Nat.le_of_ble_eq_true rfl) (t_X7_keep E _ e38 isR_rfl) ?_
        refine mw_aload (x := (some h1.1.length)) dX8_tell_90 rfl ?_
        obtain ⟨x41, e42, hf⟩ := ob hf
        refine ml_getI dX8_tell_92 fl_RX8_127 rfl e42 ?_
        obtain ⟨rfl, rfl⟩ := y1 hf
        exact mw_ireturn dX8_tell_95 rfl rfl hk
      · rw [if_neg c16] at hf
        refine mw_iconst (v := (-1)) dX8_tell_31 (by decide) ?_
        obtain ⟨rfl, rfl⟩ := y1 hf
        exact mw_ireturn dX8_tell_32 rfl rfl hk
def f_X8_bank (a0 : Nat) (v1 : Int32) (v2 : Int32) (v3 : Int32) (v4 : Int32) (h : Hp) : Option (Int32 × Hp) :=
  (rc h (some a0) 7).bind fun g3 =>
  b1 (f_X8_workerAt g3 v1 h) fun x5 h1 =>
  b1 (f_X8_isWeek v2 h1) fun x8 h6 =>
  b1 ((if x8 = (0 : Int32) then
      some (0, h6)
    else
      b1 (f_X8_isWeek v3 h6) fun x21 h19 =>
      if x21 = (0 : Int32) then
        some (0, h19)
      else
        if v3 < v2 then
          some (0, h19)
        else
          b1 (f_X8_within v4 (0 : Int32) (999999 : Int32) h19) fun x26 h24 =>
          if x26 = (0 : Int32) then
            some (0, h24)
          else
            some (1, h24) : Option (Int32 × Hp))) fun w28 h29 =>
  if w28 = (0 : Int32) then
    some ((-1), h29)
  else
    if x5 = none then
      some ((-1), h29)
    else
      (getI h29 x5 6 4).bind fun x33 =>
      if x33 < (10 : Int32) then
        (rc h29 (some a0) 7).bind fun g38 =>
        b1 (f_X8_tell g38 (2 : Int32) v1 v2 v3 v4 h29) fun x40 h36 =>
        Option.bind ((if x40 = ((-1) : Int32) then
            some h36
          else
            (getI h36 x5 6 4).bind fun x46 =>
            (putI h36 x5 6 4 (x46 + (1 : Int32))).bind fun h48 =>
            some h48 : Option (Hp))) fun h50 =>
        some (x40, h50)
      else
        some ((-1), h29)
set_option maxHeartbeats 4000000 in
theorem t_X8_bank (E : En) (d : Nat) {a0 : Nat} {v1 : Int32} {v2 : Int32} {v3 : Int32} {v4 : Int32} {h h' : Hp} {r : Int32} {K : Option Vv → Hp → Prop} (hf : f_X8_bank a0 v1 v2 v3 v4 h = some (r, h')) (hk : K (some (vi r)) h') : MC E m_X8_bank (d + 3) 1 12 [vq (some a0), vi v1, vi v2, vi v3, vi v4] h K := by
  unfold f_X8_bank at hf
  show MW E m_X8_bank (d + 3) 1 12 0 [some (vq (some a0)), some (vi v1), some (vi v2), some (vi v3), some (vi v4), none, none, none] [] h K
  refine mw_aload_n (x := (some a0)) dX8_bank_0 rfl ?_
  refine mw_iload_n (x := v1) dX8_bank_1 rfl ?_
  obtain ⟨g3, e4, hf⟩ := ob hf
  obtain ⟨x5, h1, e2, hf⟩ := ob1 hf
  refine ml_callV (ci := 7) (mc := 1) (ms := 12) (mc' := 0) (ms' := 0) [vi v1] dX8_bank_2 mk_X8_workerAt lk_RX8_99 im_X8_workerAt se_X8_workerAt (by decide) e4 rfl (Nat.le_of_ble_eq_true rfl) (Nat.le_of_ble_eq_true rfl) (t_X8_workerAt E _ e2 isR_rfl) ?_
  refine mw_astore dX8_bank_5 (by decide) rfl ?_
  refine mw_iload_n (x := v2) dX8_bank_7 rfl ?_
  obtain ⟨x8, h6, e7, hf⟩ := ob1 hf
  refine ml_callS (mc := 1) (ms := 12) (mc' := 0) (ms' := 0) [vi v2] dX8_bank_8 mk_X8_isWeek lk_RX8_91 st_X8_isWeek rfl (Nat.le_of_ble_eq_true rfl) (Nat.le_of_ble_eq_true rfl) (t_X8_isWeek E _ e7 isR_rfl) ?_
  obtain ⟨w28, h29, r30, hf⟩ := ob1 hf
  have J52 : MW E m_X8_bank (d + 3) 1 12 42 [some (vq (some a0)), some (vi v1), some (vi v2), some (vi v3), some (vi v4), some (vq x5), none, none] [vi w28] h29 K := by
    refine mw_istore dX8_bank_42 (by decide) rfl ?_
    refine mw_iload (x := w28) dX8_bank_44 rfl ?_
    refine mw_if_eq (tgt := 64) dX8_bank_46 rfl (fun c31 => ?_) (fun c31 => ?_)
    · rw [if_pos c31] at hf
      refine mw_iconst (v := (-1)) dX8_bank_64 (by decide) ?_
      obtain ⟨rfl, rfl⟩ := y1 hf
      exact mw_ireturn dX8_bank_65 rfl rfl hk
    · rw [if_neg c31] at hf
      refine mw_aload (x := x5) dX8_bank_49 rfl ?_
      refine mw_ifnull (tgt := 64) dX8_bank_51 rfl (fun c32 => ?_) (fun c32 => ?_)
      · rw [if_pos c32] at hf
        refine mw_iconst (v := (-1)) dX8_bank_64 (by decide) ?_
        obtain ⟨rfl, rfl⟩ := y1 hf
        exact mw_ireturn dX8_bank_65 rfl rfl hk
      · rw [if_neg c32] at hf
        refine mw_aload (x := x5) dX8_bank_54 rfl ?_
        obtain ⟨x33, e34, hf⟩ := ob hf
        refine ml_getI dX8_bank_56 fl_RX8_104 rfl e34 ?_
        refine mw_bipush (v := 10) dX8_bank_59 (by decide) ?_
        refine mw_icmp_lt (tgt := 66) dX8_bank_61 rfl (fun c35 => ?_) (fun c35 => ?_)
        · rw [if_pos c35] at hf
          refine mw_aload_n (x := (some a0)) dX8_bank_66 rfl ?_
          refine mw_iconst (v := 2) dX8_bank_67 (by decide) ?_
          refine mw_iload_n (x := v1) dX8_bank_68 rfl ?_
          refine mw_iload_n (x := v2) dX8_bank_69 rfl ?_
          refine mw_iload_n (x := v3) dX8_bank_70 rfl ?_
          refine mw_iload (x := v4) dX8_bank_71 rfl ?_
          obtain ⟨g38, e39, hf⟩ := ob hf
          obtain ⟨x40, h36, e37, hf⟩ := ob1 hf
          refine ml_callV (ci := 7) (mc := 0) (ms := 0) (mc' := 1) (ms' := 12) [vi (2 : Int32), vi v1, vi v2, vi v3, vi v4] dX8_bank_73 mk_X8_tell lk_RX8_95 im_X8_tell se_X8_tell (by decide) e39 rfl (Nat.le_of_ble_eq_true rfl) (Nat.le_of_ble_eq_true rfl) (t_X8_tell E _ e37 isR_rfl) ?_
          refine mw_istore dX8_bank_76 (by decide) rfl ?_
          refine mw_iload (x := x40) dX8_bank_78 rfl ?_
          refine mw_iconst (v := (-1)) dX8_bank_80 (by decide) ?_
          obtain ⟨h50, r51, hf⟩ := ob hf
          have J53 : MW E m_X8_bank (d + 3) 0 0 95 [none, none, none, none, none, none, none, some (vi x40)] [] h50 K := by
            refine mw_iload (x := x40) dX8_bank_95 rfl ?_
            obtain ⟨rfl, rfl⟩ := y1 hf
            exact mw_ireturn dX8_bank_97 rfl rfl hk
          refine mw_icmp_eq (tgt := 95) dX8_bank_81 rfl (fun c41 => ?_) (fun c41 => ?_)
          · rw [if_pos c41] at r51
            obtain rfl := y0 r51
            exact MW.sub (subL_n (subL_n (subL_n (subL_n (subL_n (subL_n (subL_n (subL_s subL_nil)))))))) (MW.more (Nat.le_refl _) (by decide) (by decide) J53)
          · rw [if_neg c41] at r51
            refine mw_aload (x := x5) dX8_bank_84 rfl ?_
            refine mw_dupq dX8_bank_86 ?_
            obtain ⟨x46, e47, r51⟩ := ob r51
            refine ml_getI dX8_bank_87 fl_RX8_104 rfl e47 ?_
            refine mw_iconst (v := 1) dX8_bank_90 (by decide) ?_
            refine mw_iadd dX8_bank_91 ?_
            obtain ⟨h48, e49, r51⟩ := ob r51
            refine ml_putI dX8_bank_92 fl_RX8_104 (Or.inl rfl) rfl rfl e49 ?_
            obtain rfl := y0 r51
            exact MW.sub (subL_n (subL_n (subL_n (subL_n (subL_n (subL_n (subL_n (subL_s subL_nil)))))))) (MW.more (Nat.le_refl _) (by decide) (by decide) J53)
        · rw [if_neg c35] at hf
          refine mw_iconst (v := (-1)) dX8_bank_64 (by decide) ?_
          obtain ⟨rfl, rfl⟩ := y1 hf
          exact mw_ireturn dX8_bank_65 rfl rfl hk
  refine mw_if_eq (tgt := 41) dX8_bank_11 rfl (fun c9 => ?_) (fun c9 => ?_)
  · rw [if_pos c9] at r30
    refine mw_iconst (v := 0) dX8_bank_41 (by decide) ?_
    obtain ⟨rfl, rfl⟩ := y1 r30
    exact MW.sub (subL_s (subL_s (subL_s (subL_s (subL_s (subL_s (subL_n (subL_n subL_nil)))))))) (MW.more (Nat.le_refl _) (by decide) (by decide) J52)
  · rw [if_neg c9] at r30
    refine mw_iload_n (x := v3) dX8_bank_14 rfl ?_
    obtain ⟨x21, h19, e20, r30⟩ := ob1 r30
    refine ml_callS (mc := 1) (ms := 12) (mc' := 0) (ms' := 0) [vi v3] dX8_bank_15 mk_X8_isWeek lk_RX8_91 st_X8_isWeek rfl (Nat.le_of_ble_eq_true rfl) (Nat.le_of_ble_eq_true rfl) (t_X8_isWeek E _ e20 isR_rfl) ?_
    refine mw_if_eq (tgt := 41) dX8_bank_18 rfl (fun c22 => ?_) (fun c22 => ?_)
    · rw [if_pos c22] at r30
      refine mw_iconst (v := 0) dX8_bank_41 (by decide) ?_
      obtain ⟨rfl, rfl⟩ := y1 r30
      exact MW.sub (subL_s (subL_s (subL_s (subL_s (subL_s (subL_s (subL_n (subL_n subL_nil)))))))) (MW.more (Nat.le_refl _) (by decide) (by decide) J52)
    · rw [if_neg c22] at r30
      refine mw_iload_n (x := v2) dX8_bank_21 rfl ?_
      refine mw_iload_n (x := v3) dX8_bank_22 rfl ?_
      refine mw_icmp_gt (tgt := 41) dX8_bank_23 rfl (fun c23 => ?_) (fun c23 => ?_)
      · rw [if_pos c23] at r30
        refine mw_iconst (v := 0) dX8_bank_41 (by decide) ?_
        obtain ⟨rfl, rfl⟩ := y1 r30
        exact MW.sub (subL_s (subL_s (subL_s (subL_s (subL_s (subL_s (subL_n (subL_n subL_nil)))))))) (MW.more (Nat.le_refl _) (by decide) (by decide) J52)
      · rw [if_neg c23] at r30
        refine mw_iload (x := v4) dX8_bank_26 rfl ?_
        refine mw_iconst (v := 0) dX8_bank_28 (by decide) ?_
        refine mw_ldc dX8_bank_29 kc_RX8_103 ?_
        obtain ⟨x26, h24, e25, r30⟩ := ob1 r30
        refine ml_callS (mc := 1) (ms := 12) (mc' := 0) (ms' := 0) [vi v4, vi (0 : Int32), vi (999999 : Int32)] dX8_bank_31 mk_X8_within lk_RX8_81 st_X8_within rfl (Nat.le_of_ble_eq_true rfl) (Nat.le_of_ble_eq_true rfl) (t_X8_within E _ e25 isR_rfl) ?_
        refine mw_if_eq (tgt := 41) dX8_bank_34 rfl (fun c27 => ?_) (fun c27 => ?_)
        · rw [if_pos c27] at r30
          refine mw_iconst (v := 0) dX8_bank_41 (by decide) ?_
          obtain ⟨rfl, rfl⟩ := y1 r30
          exact MW.sub (subL_s (subL_s (subL_s (subL_s (subL_s (subL_s (subL_n (subL_n subL_nil)))))))) (MW.more (Nat.le_refl _) (by decide) (by decide) J52)
        · rw [if_neg c27] at r30
          refine mw_iconst (v := 1) dX8_bank_37 (by decide) ?_
          refine mw_goto (tgt := 42) dX8_bank_38 rfl ?_
          obtain ⟨rfl, rfl⟩ := y1 r30
          exact MW.sub (subL_s (subL_s (subL_s (subL_s (subL_s (subL_s (subL_n (subL_n subL_nil)))))))) (MW.more (Nat.le_refl _) (by decide) (by decide) J52)
def f_X8_weighMarkSets_L16 : Nat → Nat → Int32 → Int64 → Int32 → Hp → Option ((Int64 × Hp))
  | 0, _, _, _, _, _ => none
  | n + 1, a0, v1, v2, v4, h =>
    (getQ h (some a0) 7 9).bind fun x6 =>
    (aln h x6 11).bind fun x8 =>
    if x8 ≤ v4 then
      some (v2, h)
    else
      (getQ h (some a0) 7 10).bind fun x11 =>
      (aln h x11 10).bind fun x13 =>
      if x13 ≤ v4 then
        some (v2, h)
      else
        (getQ h (some a0) 7 10).bind fun x16 =>
        (rdI h x16 10 v4).bind fun x18 =>
        b1 ((if (x18 &&& (v1 ^^^ ((-1) : Int32))) = (0 : Int32) then
            (getQ h (some a0) 7 9).bind fun x25 =>
            (rdJ h x25 11 v4).bind fun x27 =>
            some ((v2 + x27), h)
          else
            some (v2, h) : Option (Int64 × Hp))) fun w29 h30 =>
        f_X8_weighMarkSets_L16 n a0 v1 w29 (v4 + 1) h30
def f_X8_weighMarkSets_L2 : Nat → Nat → Int32 → Hp → Option ((Hp))
  | 0, _, _, _ => none
  | n + 1, a0, v1, h =>
    (getQ h (some a0) 7 11).bind fun x1 =>
    (aln h x1 11).bind fun x3 =>
    if x3 ≤ v1 then
      some h
    else
      b1 (f_X8_weighMarkSets_L16 fu a0 v1 0 0 h) fun w32 h33 =>
      (getQ h33 (some a0) 7 11).bind fun x34 =>
      (wrJ h33 x34 v1 w32).bind fun h36 =>
      f_X8_weighMarkSets_L2 n a0 (v1 + 1) h36
def f_X8_weighMarkSets (a0 : Nat) (h : Hp) : Option (Hp) :=
  (f_X8_weighMarkSets_L2 fu a0 0 h).bind fun h40 =>
  some h40
set_option maxHeartbeats 4000000 in
theorem tl_X8_weighMarkSets_16 (E : En) (d : Nat) {mc ms : Nat} {K : Option Vv → Hp → Prop} : ∀ (n : Nat) (a0 : Nat) (v1 : Int32) (v2 : Int64) (v4 : Int32) (h : Hp) (u2 : Int64) (hz : Hp), f_X8_weighMarkSets_L16 n a0 v1 v2 v4 h = some (u2, hz) → MW E m_X8_weighMarkSets (d + 0) mc ms 66 [some (vq (some a0)), some (vi v1), some (vl u2), none, none] [] hz K → MW E m_X8_weighMarkSets (d + 0) mc ms 16 [some (vq (some a0)), some (vi v1), some (vl v2), none, some (vi v4)] [] h K := by
  intro n
  induction n with
  | zero => intro a0 v1 v2 v4 h u2 hz hf; exact nomatch (show none = some _ from hf)
  | succ n ih =>
    intro a0 v1 v2 v4 h u2 hz hf hX66
    rw [f_X8_weighMarkSets_L16] at hf
    refine mw_iload (x := v4) dX8_weighMarkSets_16 rfl ?_
    refine mw_aload_n (x := (some a0)) dX8_weighMarkSets_18 rfl ?_
    obtain ⟨x6, e7, hf⟩ := ob hf
    refine ml_getQ dX8_weighMarkSets_19 fl_RX8_48 rfl e7 ?_
    obtain ⟨x8, e9, hf⟩ := ob hf
    refine ml_alen dX8_weighMarkSets_22 e9 (by decide) (by decide) ?_
    refine mw_icmp_ge (tgt := 66) dX8_weighMarkSets_23 rfl (fun c10 => ?_) (fun c10 => ?_)
    · rw [if_pos c10] at hf
      obtain ⟨rfl, rfl⟩ := y1 hf
      exact MW.sub (subL_s (subL_s (subL_s (subL_n (subL_n subL_nil))))) hX66
    · rw [if_neg c10] at hf
      refine mw_iload (x := v4) dX8_weighMarkSets_26 rfl ?_
      refine mw_aload_n (x := (some a0)) dX8_weighMarkSets_28 rfl ?_
      obtain ⟨x11, e12, hf⟩ := ob hf
      refine ml_getQ dX8_weighMarkSets_29 fl_RX8_52 rfl e12 ?_
      obtain ⟨x13, e14, hf⟩ := ob hf
      refine ml_alen dX8_weighMarkSets_32 e14 (by decide) (by decide) ?_
      refine mw_icmp_ge (tgt := 66) dX8_weighMarkSets_33 rfl (fun c15 => ?_) (fun c15 => ?_)
      · rw [if_pos c15] at hf
        obtain ⟨rfl, rfl⟩ := y1 hf
        exact MW.sub (subL_s (subL_s (subL_s (subL_n (subL_n subL_nil))))) hX66
      · rw [if_neg c15] at hf
        refine mw_aload_n (x := (some a0)) dX8_weighMarkSets_36 rfl ?_
        obtain ⟨x16, e17, hf⟩ := ob hf
        refine ml_getQ dX8_weighMarkSets_37 fl_RX8_52 rfl e17 ?_
        refine mw_iload (x := v4) dX8_weighMarkSets_40 rfl ?_
        obtain ⟨x18, e19, hf⟩ := ob hf
        refine ml_iald dX8_weighMarkSets_42 e19 ?_
        refine mw_iload_n (x := v1) dX8_weighMarkSets_43 rfl ?_
        refine mw_iconst (v := (-1)) dX8_weighMarkSets_44 (by decide) ?_
        refine mw_ixor dX8_weighMarkSets_45 ?_
        refine mw_iand dX8_weighMarkSets_46 ?_
        obtain ⟨w29, h30, r31, hf⟩ := ob1 hf
        have J43 : MW E m_X8_weighMarkSets (d + 0) mc ms 60 [some (vq (some a0)), some (vi v1), some (vl w29), none, some (vi v4)] [] h30 K := by
          refine mw_iinc (x := v4) (v := v4 + 1) dX8_weighMarkSets_60 rfl rfl (by decide) rfl ?_
          refine mw_goto (tgt := 16) dX8_weighMarkSets_63 rfl ?_
          exact MW.sub (subL_s (subL_s (subL_s (subL_n (subL_s subL_nil))))) (ih _ _ _ _ _ _ _ hf hX66)
        refine mw_if_ne (tgt := 60) dX8_weighMarkSets_47 rfl (fun c20 => ?_) (fun c20 => ?_)
        · rw [if_neg c20] at r31
          obtain ⟨rfl, rfl⟩ := y1 r31
          exact MW.sub (subL_s (subL_s (subL_s (subL_n (subL_s subL_nil))))) J43
        · rw [if_pos c20] at r31
          refine mw_lload_n (x := v2) dX8_weighMarkSets_50 rfl ?_
          refine mw_aload_n (x := (some a0)) dX8_weighMarkSets_51 rfl ?_
          obtain ⟨x25, e26, r31⟩ := ob r31
          refine ml_getQ dX8_weighMarkSets_52 fl_RX8_48 rfl e26 ?_
          refine mw_iload (x := v4) dX8_weighMarkSets_55 rfl ?_
          obtain ⟨x27, e28, r31⟩ := ob r31
          refine ml_lald dX8_weighMarkSets_57 e28 ?_
          refine mw_ladd dX8_weighMarkSets_58 ?_
          refine mw_lstore_n dX8_weighMarkSets_59 (by decide) rfl ?_
          obtain ⟨rfl, rfl⟩ := y1 r31
          exact MW.sub (subL_s (subL_s (subL_s (subL_n (subL_s subL_nil))))) J43
set_option maxHeartbeats 4000000 in
theorem tl_X8_weighMarkSets_2 (E : En) (d : Nat) {mc ms : Nat} {K : Option Vv → Hp → Prop} : ∀ (n : Nat) (a0 : Nat) (v1 : Int32) (h : Hp) (hz : Hp), f_X8_weighMarkSets_L2 n a0 v1 h = some hz → MW E m_X8_weighMarkSets (d + 0) mc ms 79 [none, none, none, none, none] [] hz K → MW E m_X8_weighMarkSets (d + 0) mc ms 2 [some (vq (some a0)), some (vi v1), none, none, none] [] h K := by
  intro n
  induction n with
  | zero => intro a0 v1 h hz hf; exact nomatch (show none = some _ from hf)
  | succ n ih =>
    intro a0 v1 h hz hf hX79
    rw [f_X8_weighMarkSets_L2] at hf
    refine mw_iload_n (x := v1) dX8_weighMarkSets_2 rfl ?_
    refine mw_aload_n (x := (some a0)) dX8_weighMarkSets_3 rfl ?_
    obtain ⟨x1, e2, hf⟩ := ob hf
    refine ml_getQ dX8_weighMarkSets_4 fl_RX8_56 rfl e2 ?_
    obtain ⟨x3, e4, hf⟩ := ob hf
    refine ml_alen dX8_weighMarkSets_7 e4 (by decide) (by decide) ?_
    refine mw_icmp_ge (tgt := 79) dX8_weighMarkSets_8 rfl (fun c5 => ?_) (fun c5 => ?_)
    · rw [if_pos c5] at hf
      obtain rfl := y0 hf
      exact MW.sub (subL_n (subL_n (subL_n (subL_n (subL_n subL_nil))))) hX79
    · rw [if_neg c5] at hf
      refine mw_lconst (v := 0) dX8_weighMarkSets_11 (by decide) ?_
      refine mw_lstore_n dX8_weighMarkSets_12 (by decide) rfl ?_
      refine mw_iconst (v := 0) dX8_weighMarkSets_13 (by decide) ?_
      refine mw_istore dX8_weighMarkSets_14 (by decide) rfl ?_
      obtain ⟨w32, h33, e38, hf⟩ := ob1 hf
      refine MW.sub (subL_s (subL_s (subL_s (subL_n (subL_s subL_nil))))) (tl_X8_weighMarkSets_16 E d _ _ _ _ _ _ _ _ e38 ?_)
      refine mw_aload_n (x := (some a0)) dX8_weighMarkSets_66 rfl ?_
      obtain ⟨x34, e35, hf⟩ := ob hf
      refine ml_getQ dX8_weighMarkSets_67 fl_RX8_56 rfl e35 ?_
      refine mw_iload_n (x := v1) dX8_weighMarkSets_70 rfl ?_
      refine mw_lload_n (x := w32) dX8_weighMarkSets_71 rfl ?_
      obtain ⟨h36, e37, hf⟩ := ob hf
      refine ml_last dX8_weighMarkSets_72 e37 ?_
      refine mw_iinc (x := v1) (v := v1 + 1) dX8_weighMarkSets_73 rfl rfl (by decide) rfl ?_
      refine mw_goto (tgt := 2) dX8_weighMarkSets_76 rfl ?_
      exact MW.sub (subL_s (subL_s (subL_n (subL_n (subL_n subL_nil))))) (ih _ _ _ _ hf hX79)
set_option maxHeartbeats 4000000 in
theorem t_X8_weighMarkSets (E : En) (d : Nat) {mc ms : Nat} {a0 : Nat} {h h' : Hp} {K : Option Vv → Hp → Prop} (hf : f_X8_weighMarkSets a0 h = some h') (hk : K none h') : MC E m_X8_weighMarkSets (d + 0) mc ms [vq (some a0)] h K := by
  unfold f_X8_weighMarkSets at hf
  show MW E m_X8_weighMarkSets (d + 0) mc ms 0 [some (vq (some a0)), none, none, none, none] [] h K
  refine mw_iconst (v := 0) dX8_weighMarkSets_0 (by decide) ?_
  refine mw_istore_n dX8_weighMarkSets_1 (by decide) rfl ?_
  obtain ⟨h40, e41, hf⟩ := ob hf
  refine MW.sub (subL_s (subL_s (subL_n (subL_n (subL_n subL_nil))))) (tl_X8_weighMarkSets_2 E d _ _ _ _ _ e41 ?_)
  obtain rfl := y0 hf
  exact mw_return dX8_weighMarkSets_79 rfl hk
def f_X8_marksOfSet_L4 : Nat → Nat → Int32 → Int32 → Int32 → Hp → Option ((Hp) ⊕ (Int32 × Hp))
  | 0, _, _, _, _, _ => none
  | n + 1, a0, v1, v2, v3, h =>
    (getQ h (some a0) 7 9).bind fun x1 =>
    (aln h x1 11).bind fun x3 =>
    if x3 ≤ v3 then
      some (Sum.inr (v2, h))
    else
      (getQ h (some a0) 7 10).bind fun x6 =>
      (aln h x6 10).bind fun x8 =>
      if x8 ≤ v3 then
        some (Sum.inr (v2, h))
      else
        if ((v1 >>> (v3 &&& 31)) &&& (1 : Int32)) = (0 : Int32) then
          f_X8_marksOfSet_L4 n a0 v1 v2 (v3 + 1) h
        else
          (getQ h (some a0) 7 9).bind fun x12 =>
          (rdJ h x12 11 v3).bind fun x14 =>
          if (0 : Int32) < (lg_cmp x14 (0 : Int64)) then
            (getQ h (some a0) 7 10).bind fun x17 =>
            (rdI h x17 10 v3).bind fun x19 =>
            f_X8_marksOfSet_L4 n a0 v1 (v2 ||| x19) (v3 + 1) h
          else
            some (Sum.inl h)
def f_X8_marksOfSet (a0 : Nat) (v1 : Int32) (h : Hp) : Option (Int32 × Hp) :=
  (f_X8_marksOfSet_L4 fu a0 v1 0 0 h).bind (Sum.elim (fun h21 => some ((-1), h21)) (c1 fun w22 h23 => some (w22, h23)))
set_option maxHeartbeats 4000000 in
theorem tl_X8_marksOfSet_4 (E : En) (d : Nat) {mc ms : Nat} {K : Option Vv → Hp → Prop} : ∀ (n : Nat) (a0 : Nat) (v1 : Int32) (v2 : Int32) (v3 : Int32) (h : Hp) (o : (Hp) ⊕ (Int32 × Hp)), f_X8_marksOfSet_L4 n a0 v1 v2 v3 h = some o → (∀ (hz : Hp), o = Sum.inl hz → MW E m_X8_marksOfSet (d + 0) mc ms 41 [none, none, none, none] [] hz K) → (∀ (u2 : Int32) (hz : Hp), o = Sum.inr (u2, hz) → MW E m_X8_marksOfSet (d + 0) mc ms 58 [none, none, some (vi u2), none] [] hz K) → MW E m_X8_marksOfSet (d + 0) mc ms 4 [some (vq (some a0)), some (vi v1), some (vi v2), some (vi v3)] [] h K := by
  intro n
  induction n with
  | zero => intro a0 v1 v2 v3 h o hf; exact nomatch (show none = some _ from hf)
  | succ n ih =>
    intro a0 v1 v2 v3 h o hf hX41 hX58
    rw [f_X8_marksOfSet_L4] at hf
    refine mw_iload_n (x := v3) dX8_marksOfSet_4 rfl ?_
    refine mw_aload_n (x := (some a0)) dX8_marksOfSet_5 rfl ?_
    obtain ⟨x1, e2, hf⟩ := ob hf
    refine ml_getQ dX8_marksOfSet_6 fl_RX8_48 rfl e2 ?_
    obtain ⟨x3, e4, hf⟩ := ob hf
    refine ml_alen dX8_marksOfSet_9 e4 (by decide) (by decide) ?_
    refine mw_icmp_ge (tgt := 58) dX8_marksOfSet_10 rfl (fun c5 => ?_) (fun c5 => ?_)
    · rw [if_pos c5] at hf
      obtain rfl := y0 hf
      exact MW.sub (subL_n (subL_n (subL_s (subL_n subL_nil)))) (hX58 _ _ rfl)
    · rw [if_neg c5] at hf
      refine mw_iload_n (x := v3) dX8_marksOfSet_13 rfl ?_
      refine mw_aload_n (x := (some a0)) dX8_marksOfSet_14 rfl ?_
      obtain ⟨x6, e7, hf⟩ := ob hf
      refine ml_getQ dX8_marksOfSet_15 fl_RX8_52 rfl e7 ?_
      obtain ⟨x8, e9, hf⟩ := ob hf
      refine ml_alen dX8_marksOfSet_18 e9 (by decide) (by decide) ?_
      refine mw_icmp_ge (tgt := 58) dX8_marksOfSet_19 rfl (fun c10 => ?_) (fun c10 => ?_)
      · rw [if_pos c10] at hf
        obtain rfl := y0 hf
        exact MW.sub (subL_n (subL_n (subL_s (subL_n subL_nil)))) (hX58 _ _ rfl)
      · rw [if_neg c10] at hf
        refine mw_iload_n (x := v1) dX8_marksOfSet_22 rfl ?_
        refine mw_iload_n (x := v3) dX8_marksOfSet_23 rfl ?_
        refine mw_ishr dX8_marksOfSet_24 ?_
        refine mw_iconst (v := 1) dX8_marksOfSet_25 (by decide) ?_
        refine mw_iand dX8_marksOfSet_26 ?_
        refine mw_if_eq (tgt := 52) dX8_marksOfSet_27 rfl (fun c11 => ?_) (fun c11 => ?_)
        · rw [if_pos c11] at hf
          refine mw_iinc (x := v3) (v := v3 + 1) dX8_marksOfSet_52 rfl rfl (by decide) rfl ?_
          refine mw_goto (tgt := 4) dX8_marksOfSet_55 rfl ?_
          exact MW.sub (subL_s (subL_s (subL_s (subL_s subL_nil)))) (ih _ _ _ _ _ _ hf hX41 hX58)
        · rw [if_neg c11] at hf
          refine mw_aload_n (x := (some a0)) dX8_marksOfSet_30 rfl ?_
          obtain ⟨x12, e13, hf⟩ := ob hf
          refine ml_getQ dX8_marksOfSet_31 fl_RX8_48 rfl e13 ?_
          refine mw_iload_n (x := v3) dX8_marksOfSet_34 rfl ?_
          obtain ⟨x14, e15, hf⟩ := ob hf
          refine ml_lald dX8_marksOfSet_35 e15 ?_
          refine mw_lconst (v := 0) dX8_marksOfSet_36 (by decide) ?_
          refine mw_lcmp dX8_marksOfSet_37 ?_
          refine mw_if_gt (tgt := 43) dX8_marksOfSet_38 rfl (fun c16 => ?_) (fun c16 => ?_)
          · rw [if_pos c16] at hf
            refine mw_iload_n (x := v2) dX8_marksOfSet_43 rfl ?_
            refine mw_aload_n (x := (some a0)) dX8_marksOfSet_44 rfl ?_
            obtain ⟨x17, e18, hf⟩ := ob hf
            refine ml_getQ dX8_marksOfSet_45 fl_RX8_52 rfl e18 ?_
            refine mw_iload_n (x := v3) dX8_marksOfSet_48 rfl ?_
            obtain ⟨x19, e20, hf⟩ := ob hf
            refine ml_iald dX8_marksOfSet_49 e20 ?_
            refine mw_ior dX8_marksOfSet_50 ?_
            refine mw_istore_n dX8_marksOfSet_51 (by decide) rfl ?_
            refine mw_iinc (x := v3) (v := v3 + 1) dX8_marksOfSet_52 rfl rfl (by decide) rfl ?_
            refine mw_goto (tgt := 4) dX8_marksOfSet_55 rfl ?_
            exact MW.sub (subL_s (subL_s (subL_s (subL_s subL_nil)))) (ih _ _ _ _ _ _ hf hX41 hX58)
          · rw [if_neg c16] at hf
            obtain rfl := y0 hf
            exact MW.sub (subL_n (subL_n (subL_n (subL_n subL_nil)))) (hX41 _ rfl)
set_option maxHeartbeats 4000000 in
theorem t_X8_marksOfSet (E : En) (d : Nat) {mc ms : Nat} {a0 : Nat} {v1 : Int32} {h h' : Hp} {r : Int32} {K : Option Vv → Hp → Prop} (hf : f_X8_marksOfSet a0 v1 h = some (r, h')) (hk : K (some (vi r)) h') : MC E m_X8_marksOfSet (d + 0) mc ms [vq (some a0), vi v1] h K := by
  unfold f_X8_marksOfSet at hf
  show MW E m_X8_marksOfSet (d + 0) mc ms 0 [some (vq (some a0)), some (vi v1), none, none] [] h K
  refine mw_iconst (v := 0) dX8_marksOfSet_0 (by decide) ?_
  refine mw_istore_n dX8_marksOfSet_1 (by decide) rfl ?_
  refine mw_iconst (v := 0) dX8_marksOfSet_2 (by decide) ?_
  refine mw_istore_n dX8_marksOfSet_3 (by decide) rfl ?_
  obtain ⟨o25, e24, hf⟩ := ob hf
  rcases o25 with h21 | ⟨w22, h23⟩
  · have HX : MW E m_X8_marksOfSet (d + 0) mc ms 41 [none, none, none, none] [] h21 K := by
      refine mw_iconst (v := (-1)) dX8_marksOfSet_41 (by decide) ?_
      obtain ⟨rfl, rfl⟩ := y1 hf
      exact mw_ireturn dX8_marksOfSet_42 rfl rfl hk
    exact MW.sub (subL_s (subL_s (subL_s (subL_s subL_nil)))) (tl_X8_marksOfSet_4 E d _ _ _ _ _ _ _ e24 (fun _ q => by cases q; exact HX) (fun _ _ q => by cases q))
  · have HX : MW E m_X8_marksOfSet (d + 0) mc ms 58 [none, none, some (vi w22), none] [] h23 K := by
      refine mw_iload_n (x := w22) dX8_marksOfSet_58 rfl ?_
      obtain ⟨rfl, rfl⟩ := y1 hf
      exact mw_ireturn dX8_marksOfSet_59 rfl rfl hk
    exact MW.sub (subL_s (subL_s (subL_s (subL_s subL_nil)))) (tl_X8_marksOfSet_4 E d _ _ _ _ _ _ _ e24 (fun _ q => by cases q) (fun _ _ q => by cases q; exact HX))
def f_X8_bestTests_L18 : Nat → Nat → Int32 → Int32 → Int32 → Hp → Option ((Int32 × Hp))
  | 0, _, _, _, _, _ => none
  | n + 1, a0, v1, v2, v3, h =>
    (getI h (some a0) 7 3).bind fun x11 =>
    if ((1 : Int32) <<< (x11 &&& 31)) ≤ v3 then
      some (v2, h)
    else
      b1 (f_J6_bitCount_0f7a4 v3 h) fun x16 h14 =>
      b1 ((if v1 < x16 then
          some ((-1), h14)
        else
          (rc h14 (some a0) 7).bind fun g25 =>
          b1 (f_X8_marksOfSet g25 v3 h14) fun x27 h23 =>
          some (x27, h23) : Option (Int32 × Hp))) fun w28 h29 =>
      b1 ((if w28 < (0 : Int32) then
          some (v2, h29)
        else
          (getQ h29 (some a0) 7 11).bind fun x64 =>
          (aln h29 x64 11).bind fun x66 =>
          if x66 ≤ w28 then
            some (v2, h29)
          else
            (getQ h29 (some a0) 7 11).bind fun x69 =>
            (rdJ h29 x69 11 w28).bind fun x71 =>
            (getJ h29 (some a0) 7 12).bind fun x73 =>
            b1 ((if (0 : Int32) < (lg_cmp x71 x73) then
                some (1, h29)
              else
                (getJ h29 (some a0) 7 12).bind fun x83 =>
                if (lg_cmp x71 x83) = (0 : Int32) then
                  b1 (f_J6_bitCount_0f7a4 v2 h29) fun x88 h86 =>
                  if x88 ≤ x16 then
                    some (0, h86)
                  else
                    some (1, h86)
                else
                  some (0, h29) : Option (Int32 × Hp))) fun w90 h91 =>
            if w90 = (0 : Int32) then
              some (v2, h91)
            else
              (putJ h91 (some a0) 7 12 x71).bind fun h94 =>
              some (v3, h94) : Option (Int32 × Hp))) fun w96 h97 =>
      f_X8_bestTests_L18 n a0 v1 w96 (v3 + 1) h97
def f_X8_bestTests (a0 : Nat) (v1 : Int32) (h : Hp) : Option (Int32 × Hp) :=
  (rc h (some a0) 7).bind fun g3 =>
  (f_X8_weighMarkSets g3 h).bind fun h1 =>
  (getQ h1 (some a0) 7 11).bind fun x5 =>
  (rdJ h1 x5 11 0).bind fun x7 =>
  (putJ h1 (some a0) 7 12 x7).bind fun h9 =>
  b1 (f_X8_bestTests_L18 fu a0 v1 0 1 h9) fun w99 h100 =>
  some (w99, h100)
set_option maxHeartbeats 4000000 in
theorem tl_X8_bestTests_18 (E : En) (d : Nat) {mc ms : Nat} {K : Option Vv → Hp → Prop} : ∀ (n : Nat) (a0 : Nat) (v1 : Int32) (v2 : Int32) (v3 : Int32) (h : Hp) (u2 : Int32) (hz : Hp), f_X8_bestTests_L18 n a0 v1 v2 v3 h = some (u2, hz) → MW E m_X8_bestTests (d + 1) mc ms 130 [none, none, some (vi u2), none, none, none, none, none, none] [] hz K → MW E m_X8_bestTests (d + 1) mc ms 18 [some (vq (some a0)), some (vi v1), some (vi v2), some (vi v3), none, none, none, none, none] [] h K := by
  intro n
  induction n with
  | zero => intro a0 v1 v2 v3 h u2 hz hf; exact nomatch (show none = some _ from hf)
  | succ n ih =>
    intro a0 v1 v2 v3 h u2 hz hf hX130
    rw [f_X8_bestTests_L18] at hf
    refine mw_iload_n (x := v3) dX8_bestTests_18 rfl ?_
    refine mw_iconst (v := 1) dX8_bestTests_19 (by decide) ?_
    refine mw_aload_n (x := (some a0)) dX8_bestTests_20 rfl ?_
    obtain ⟨x11, e12, hf⟩ := ob hf
    refine ml_getI dX8_bestTests_21 fl_RX8_85 rfl e12 ?_
    refine mw_ishl dX8_bestTests_24 ?_
    refine mw_icmp_ge (tgt := 130) dX8_bestTests_25 rfl (fun c13 => ?_) (fun c13 => ?_)
    · rw [if_pos c13] at hf
      obtain ⟨rfl, rfl⟩ := y1 hf
      exact MW.sub (subL_n (subL_n (subL_s (subL_n (subL_n (subL_n (subL_n (subL_n (subL_n subL_nil))))))))) hX130
    · rw [if_neg c13] at hf
      refine mw_iload_n (x := v3) dX8_bestTests_28 rfl ?_
      obtain ⟨x16, h14, e15, hf⟩ := ob1 hf
      refine ml_callS (mc' := 0) (ms' := 0) [vi v3] dX8_bestTests_29 mk_J6_bitCount_0f7a4 lk_RX8_248 st_J6_bitCount_0f7a4 rfl (Nat.le_of_ble_eq_true rfl) (Nat.le_of_ble_eq_true rfl) (t_J6_bitCount_0f7a4 E _ e15 isR_rfl) ?_
      refine mw_istore dX8_bestTests_32 (by decide) rfl ?_
      refine mw_iload (x := x16) dX8_bestTests_34 rfl ?_
      refine mw_iload_n (x := v1) dX8_bestTests_36 rfl ?_
      obtain ⟨w28, h29, r30, hf⟩ := ob1 hf
      have J103 : MW E m_X8_bestTests (d + 1) mc ms 49 [some (vq (some a0)), some (vi v1), some (vi v2), some (vi v3), some (vi x16), none, none, none, none] [vi w28] h29 K := by
        refine mw_istore dX8_bestTests_49 (by decide) rfl ?_
        refine mw_iload (x := w28) dX8_bestTests_51 rfl ?_
        obtain ⟨w96, h97, r98, hf⟩ := ob1 hf
        have J104 : MW E m_X8_bestTests (d + 1) mc ms 124 [some (vq (some a0)), some (vi v1), some (vi w96), some (vi v3), none, none, none, none, none] [] h97 K := by
          refine mw_iinc (x := v3) (v := v3 + 1) dX8_bestTests_124 rfl rfl (by decide) rfl ?_
          refine mw_goto (tgt := 18) dX8_bestTests_127 rfl ?_
          exact MW.sub (subL_s (subL_s (subL_s (subL_s (subL_n (subL_n (subL_n (subL_n (subL_n subL_nil))))))))) (ih _ _ _ _ _ _ _ hf hX130)
        refine mw_if_lt (tgt := 124) dX8_bestTests_53 rfl (fun c31 => ?_) (fun c31 => ?_)
        · rw [if_pos c31] at r98
          obtain ⟨rfl, rfl⟩ := y1 r98
          exact MW.sub (subL_s (subL_s (subL_s (subL_s (subL_n (subL_n (subL_n (subL_n (subL_n subL_nil))))))))) J104
        · rw [if_neg c31] at r98
          refine mw_iload (x := w28) dX8_bestTests_56 rfl ?_
          refine mw_aload_n (x := (some a0)) dX8_bestTests_58 rfl ?_
          obtain ⟨x64, e65, r98⟩ := ob r98
          refine ml_getQ dX8_bestTests_59 fl_RX8_56 rfl e65 ?_
          obtain ⟨x66, e67, r98⟩ := ob r98
          refine ml_alen dX8_bestTests_62 e67 (by decide) (by decide) ?_
          refine mw_icmp_ge (tgt := 124) dX8_bestTests_63 rfl (fun c68 => ?_) (fun c68 => ?_)
          · rw [if_pos c68] at r98
            obtain ⟨rfl, rfl⟩ := y1 r98
            exact MW.sub (subL_s (subL_s (subL_s (subL_s (subL_n (subL_n (subL_n (subL_n (subL_n subL_nil))))))))) J104
          · rw [if_neg c68] at r98
            refine mw_aload_n (x := (some a0)) dX8_bestTests_66 rfl ?_
            obtain ⟨x69, e70, r98⟩ := ob r98
            refine ml_getQ dX8_bestTests_67 fl_RX8_56 rfl e70 ?_
            refine mw_iload (x := w28) dX8_bestTests_70 rfl ?_
            obtain ⟨x71, e72, r98⟩ := ob r98
            refine ml_lald dX8_bestTests_72 e72 ?_
            refine mw_lstore dX8_bestTests_73 (by decide) rfl ?_
            refine mw_lload (x := x71) dX8_bestTests_75 rfl ?_
            refine mw_aload_n (x := (some a0)) dX8_bestTests_77 rfl ?_
            obtain ⟨x73, e74, r98⟩ := ob r98
            refine ml_getJ dX8_bestTests_78 fl_RX8_232 rfl e74 ?_
            refine mw_lcmp dX8_bestTests_81 ?_
            obtain ⟨w90, h91, r92, r98⟩ := ob1 r98
            have J105 : MW E m_X8_bestTests (d + 1) mc ms 109 [some (vq (some a0)), some (vi v1), some (vi v2), some (vi v3), none, none, some (vl x71), none, none] [vi w90] h91 K := by
              refine mw_istore dX8_bestTests_109 (by decide) rfl ?_
              refine mw_iload (x := w90) dX8_bestTests_111 rfl ?_
              refine mw_if_eq (tgt := 124) dX8_bestTests_113 rfl (fun c93 => ?_) (fun c93 => ?_)
              · rw [if_pos c93] at r98
                obtain ⟨rfl, rfl⟩ := y1 r98
                exact MW.sub (subL_s (subL_s (subL_s (subL_s (subL_n (subL_n (subL_n (subL_n (subL_n subL_nil))))))))) J104
              · rw [if_neg c93] at r98
                refine mw_iload_n (x := v3) dX8_bestTests_116 rfl ?_
                refine mw_istore_n dX8_bestTests_117 (by decide) rfl ?_
                refine mw_aload_n (x := (some a0)) dX8_bestTests_118 rfl ?_
                refine mw_lload (x := x71) dX8_bestTests_119 rfl ?_
                obtain ⟨h94, e95, r98⟩ := ob r98
                refine ml_putJ dX8_bestTests_121 fl_RX8_232 (Or.inl rfl) rfl rfl e95 ?_
                obtain ⟨rfl, rfl⟩ := y1 r98
                exact MW.sub (subL_s (subL_s (subL_s (subL_s (subL_n (subL_n (subL_n (subL_n (subL_n subL_nil))))))))) J104
            refine mw_if_gt (tgt := 104) dX8_bestTests_82 rfl (fun c75 => ?_) (fun c75 => ?_)
            · rw [if_pos c75] at r92
              refine mw_iconst (v := 1) dX8_bestTests_104 (by decide) ?_
              refine mw_goto (tgt := 109) dX8_bestTests_105 rfl ?_
              obtain ⟨rfl, rfl⟩ := y1 r92
              exact MW.sub (subL_s (subL_s (subL_s (subL_s (subL_n (subL_n (subL_s (subL_n (subL_n subL_nil))))))))) J105
            · rw [if_neg c75] at r92
              refine mw_lload (x := x71) dX8_bestTests_85 rfl ?_
              refine mw_aload_n (x := (some a0)) dX8_bestTests_87 rfl ?_
              obtain ⟨x83, e84, r92⟩ := ob r92
              refine ml_getJ dX8_bestTests_88 fl_RX8_232 rfl e84 ?_
              refine mw_lcmp dX8_bestTests_91 ?_
              refine mw_if_ne (tgt := 108) dX8_bestTests_92 rfl (fun c85 => ?_) (fun c85 => ?_)
              · rw [if_neg c85] at r92
                refine mw_iconst (v := 0) dX8_bestTests_108 (by decide) ?_
                obtain ⟨rfl, rfl⟩ := y1 r92
                exact MW.sub (subL_s (subL_s (subL_s (subL_s (subL_n (subL_n (subL_s (subL_n (subL_n subL_nil))))))))) J105
              · rw [if_pos c85] at r92
                refine mw_iload (x := x16) dX8_bestTests_95 rfl ?_
                refine mw_iload_n (x := v2) dX8_bestTests_97 rfl ?_
                obtain ⟨x88, h86, e87, r92⟩ := ob1 r92
                refine ml_callS (mc' := 0) (ms' := 0) [vi v2] dX8_bestTests_98 mk_J6_bitCount_0f7a4 lk_RX8_248 st_J6_bitCount_0f7a4 rfl (Nat.le_of_ble_eq_true rfl) (Nat.le_of_ble_eq_true rfl) (t_J6_bitCount_0f7a4 E _ e87 isR_rfl) ?_
                refine mw_icmp_ge (tgt := 108) dX8_bestTests_101 rfl (fun c89 => ?_) (fun c89 => ?_)
                · rw [if_pos c89] at r92
                  refine mw_iconst (v := 0) dX8_bestTests_108 (by decide) ?_
                  obtain ⟨rfl, rfl⟩ := y1 r92
                  exact MW.sub (subL_s (subL_s (subL_s (subL_s (subL_n (subL_n (subL_s (subL_n (subL_n subL_nil))))))))) J105
                · rw [if_neg c89] at r92
                  refine mw_iconst (v := 1) dX8_bestTests_104 (by decide) ?_
                  refine mw_goto (tgt := 109) dX8_bestTests_105 rfl ?_
                  obtain ⟨rfl, rfl⟩ := y1 r92
                  exact MW.sub (subL_s (subL_s (subL_s (subL_s (subL_n (subL_n (subL_s (subL_n (subL_n subL_nil))))))))) J105
      refine mw_icmp_gt (tgt := 48) dX8_bestTests_37 rfl (fun c17 => ?_) (fun c17 => ?_)
      · rw [if_pos c17] at r30
        refine mw_iconst (v := (-1)) dX8_bestTests_48 (by decide) ?_
        obtain ⟨rfl, rfl⟩ := y1 r30
        exact MW.sub (subL_s (subL_s (subL_s (subL_s (subL_s (subL_n (subL_n (subL_n (subL_n subL_nil))))))))) J103
      · rw [if_neg c17] at r30
        refine mw_aload_n (x := (some a0)) dX8_bestTests_40 rfl ?_
        refine mw_iload_n (x := v3) dX8_bestTests_41 rfl ?_
        obtain ⟨g25, e26, r30⟩ := ob r30
        obtain ⟨x27, h23, e24, r30⟩ := ob1 r30
        refine ml_callV (ci := 7) (mc' := 0) (ms' := 0) [vi v3] dX8_bestTests_42 mk_X8_marksOfSet lk_RX8_253 im_X8_marksOfSet se_X8_marksOfSet (by decide) e26 rfl (Nat.le_of_ble_eq_true rfl) (Nat.le_of_ble_eq_true rfl) (t_X8_marksOfSet E _ e24 isR_rfl) ?_
        refine mw_goto (tgt := 49) dX8_bestTests_45 rfl ?_
        obtain ⟨rfl, rfl⟩ := y1 r30
        exact MW.sub (subL_s (subL_s (subL_s (subL_s (subL_s (subL_n (subL_n (subL_n (subL_n subL_nil))))))))) J103
set_option maxHeartbeats 4000000 in
theorem t_X8_bestTests (E : En) (d : Nat) {mc ms : Nat} {a0 : Nat} {v1 : Int32} {h h' : Hp} {r : Int32} {K : Option Vv → Hp → Prop} (hf : f_X8_bestTests a0 v1 h = some (r, h')) (hk : K (some (vi r)) h') : MC E m_X8_bestTests (d + 1) mc ms [vq (some a0), vi v1] h K := by
  unfold f_X8_bestTests at hf
  show MW E m_X8_bestTests (d + 1) mc ms 0 [some (vq (some a0)), some (vi v1), none, none, none, none, none, none, none] [] h K
  refine mw_aload_n (x := (some a0)) dX8_bestTests_0 rfl ?_
  obtain ⟨g3, e4, hf⟩ := ob hf
  obtain ⟨h1, e2, hf⟩ := ob hf
  refine ml_callV (ci := 7) (mc' := 0) (ms' := 0) [] dX8_bestTests_1 mk_X8_weighMarkSets lk_RX8_245 im_X8_weighMarkSets se_X8_weighMarkSets (by decide) e4 rfl (Nat.le_of_ble_eq_true rfl) (Nat.le_of_ble_eq_true rfl) (t_X8_weighMarkSets E _ e2 isR_rfl) ?_
  refine mw_iconst (v := 0) dX8_bestTests_4 (by decide) ?_
  refine mw_istore_n dX8_bestTests_5 (by decide) rfl ?_
  refine mw_aload_n (x := (some a0)) dX8_bestTests_6 rfl ?_
  refine mw_aload_n (x := (some a0)) dX8_bestTests_7 rfl ?_
  obtain ⟨x5, e6, hf⟩ := ob hf
  refine ml_getQ dX8_bestTests_8 fl_RX8_56 rfl e6 ?_
  refine mw_iconst (v := 0) dX8_bestTests_11 (by decide) ?_
  obtain ⟨x7, e8, hf⟩ := ob hf
  refine ml_lald dX8_bestTests_12 e8 ?_
  obtain ⟨h9, e10, hf⟩ := ob hf
  refine ml_putJ dX8_bestTests_13 fl_RX8_232 (Or.inl rfl) rfl rfl e10 ?_
  refine mw_iconst (v := 1) dX8_bestTests_16 (by decide) ?_
  refine mw_istore_n dX8_bestTests_17 (by decide) rfl ?_
  obtain ⟨w99, h100, e101, hf⟩ := ob1 hf
  refine MW.sub (subL_s (subL_s (subL_s (subL_s (subL_n (subL_n (subL_n (subL_n (subL_n subL_nil))))))))) (tl_X8_bestTests_18 E d _ _ _ _ _ _ _ _ e101 ?_)
  refine mw_iload_n (x := w99) dX8_bestTests_130 rfl ?_
  obtain ⟨rfl, rfl⟩ := y1 hf
  exact mw_ireturn dX8_bestTests_131 rfl rfl hk
