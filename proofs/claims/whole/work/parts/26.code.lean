theorem dX9_gather_0 : decode cX9_gather 0 = .ok (.aload_n 0, 1) := by decide +kernel
theorem dX9_gather_1 : decode cX9_gather 1 = .ok (.iload_n 1, 1) := by decide +kernel
theorem dX9_gather_2 : decode cX9_gather 2 = .ok (.iload_n 2, 1) := by decide +kernel
theorem dX9_gather_3 : decode cX9_gather 3 = .ok (.iload_n 3, 1) := by decide +kernel
theorem dX9_gather_4 : decode cX9_gather 4 = .ok (.iload 4, 2) := by decide +kernel
theorem dX9_gather_6 : decode cX9_gather 6 = .ok (.invokevirtual 425, 3) := by decide +kernel
theorem dX9_gather_9 : decode cX9_gather 9 = .ok (.aload_n 0, 1) := by decide +kernel
theorem dX9_gather_10 : decode cX9_gather 10 = .ok (.iconst 0, 1) := by decide +kernel
theorem dX9_gather_11 : decode cX9_gather 11 = .ok (.putfield 454, 3) := by decide +kernel
theorem dX9_gather_14 : decode cX9_gather 14 = .ok (.iconst 0, 1) := by decide +kernel
theorem dX9_gather_15 : decode cX9_gather 15 = .ok (.istore 5, 2) := by decide +kernel
theorem dX9_gather_17 : decode cX9_gather 17 = .ok (.iload 5, 2) := by decide +kernel
theorem dX9_gather_19 : decode cX9_gather 19 = .ok (.aload_n 0, 1) := by decide +kernel
theorem dX9_gather_20 : decode cX9_gather 20 = .ok (.getfield 340, 3) := by decide +kernel
theorem dX9_gather_23 : decode cX9_gather 23 = .ok (.if_icmp .ge 172, 3) := by decide +kernel
theorem dX9_gather_26 : decode cX9_gather 26 = .ok (.aload_n 0, 1) := by decide +kernel
theorem dX9_gather_27 : decode cX9_gather 27 = .ok (.iload 5, 2) := by decide +kernel
theorem dX9_gather_29 : decode cX9_gather 29 = .ok (.iconst 3, 1) := by decide +kernel
theorem dX9_gather_30 : decode cX9_gather 30 = .ok (.iload_n 2, 1) := by decide +kernel
theorem dX9_gather_31 : decode cX9_gather 31 = .ok (.iload 4, 2) := by decide +kernel
theorem dX9_gather_33 : decode cX9_gather 33 = .ok (.invokevirtual 362, 3) := by decide +kernel
theorem dX9_gather_36 : decode cX9_gather 36 = .ok (.ifCond .ne 6, 3) := by decide +kernel
theorem dX9_gather_39 : decode cX9_gather 39 = .ok (.goto 150, 3) := by decide +kernel
theorem dX9_gather_42 : decode cX9_gather 42 = .ok (.aload_n 0, 1) := by decide +kernel
theorem dX9_gather_43 : decode cX9_gather 43 = .ok (.iload_n 1, 1) := by decide +kernel
theorem dX9_gather_44 : decode cX9_gather 44 = .ok (.iload 5, 2) := by decide +kernel
theorem dX9_gather_46 : decode cX9_gather 46 = .ok (.iload 4, 2) := by decide +kernel
theorem dX9_gather_48 : decode cX9_gather 48 = .ok (.invokevirtual 451, 3) := by decide +kernel
theorem dX9_gather_51 : decode cX9_gather 51 = .ok (.istore 6, 2) := by decide +kernel
theorem dX9_gather_53 : decode cX9_gather 53 = .ok (.iload 6, 2) := by decide +kernel
theorem dX9_gather_55 : decode cX9_gather 55 = .ok (.ifCond .ne 6, 3) := by decide +kernel
theorem dX9_gather_58 : decode cX9_gather 58 = .ok (.goto 131, 3) := by decide +kernel
theorem dX9_gather_61 : decode cX9_gather 61 = .ok (.aload_n 0, 1) := by decide +kernel
theorem dX9_gather_62 : decode cX9_gather 62 = .ok (.getfield 454, 3) := by decide +kernel
theorem dX9_gather_65 : decode cX9_gather 65 = .ok (.istore 7, 2) := by decide +kernel
theorem dX9_gather_67 : decode cX9_gather 67 = .ok (.iload 7, 2) := by decide +kernel
theorem dX9_gather_69 : decode cX9_gather 69 = .ok (.ifCond .le 81, 3) := by decide +kernel
theorem dX9_gather_72 : decode cX9_gather 72 = .ok (.aload_n 0, 1) := by decide +kernel
theorem dX9_gather_73 : decode cX9_gather 73 = .ok (.getfield 129, 3) := by decide +kernel
theorem dX9_gather_76 : decode cX9_gather 76 = .ok (.aload_n 0, 1) := by decide +kernel
theorem dX9_gather_77 : decode cX9_gather 77 = .ok (.getfield 175, 3) := by decide +kernel
theorem dX9_gather_80 : decode cX9_gather 80 = .ok (.iload 7, 2) := by decide +kernel
theorem dX9_gather_82 : decode cX9_gather 82 = .ok (.iconst 1, 1) := by decide +kernel
theorem dX9_gather_83 : decode cX9_gather 83 = .ok (.isub, 1) := by decide +kernel
theorem dX9_gather_84 : decode cX9_gather 84 = .ok (.iaload, 1) := by decide +kernel
theorem dX9_gather_85 : decode cX9_gather 85 = .ok (.iaload, 1) := by decide +kernel
theorem dX9_gather_86 : decode cX9_gather 86 = .ok (.aload_n 0, 1) := by decide +kernel
theorem dX9_gather_87 : decode cX9_gather 87 = .ok (.getfield 129, 3) := by decide +kernel
theorem dX9_gather_90 : decode cX9_gather 90 = .ok (.iload 5, 2) := by decide +kernel
theorem dX9_gather_92 : decode cX9_gather 92 = .ok (.iaload, 1) := by decide +kernel
theorem dX9_gather_93 : decode cX9_gather 93 = .ok (.if_icmp .le 57, 3) := by decide +kernel
theorem dX9_gather_96 : decode cX9_gather 96 = .ok (.aload_n 0, 1) := by decide +kernel
theorem dX9_gather_97 : decode cX9_gather 97 = .ok (.getfield 175, 3) := by decide +kernel
theorem dX9_gather_100 : decode cX9_gather 100 = .ok (.iload 7, 2) := by decide +kernel
theorem dX9_gather_102 : decode cX9_gather 102 = .ok (.aload_n 0, 1) := by decide +kernel
theorem dX9_gather_103 : decode cX9_gather 103 = .ok (.getfield 175, 3) := by decide +kernel
theorem dX9_gather_106 : decode cX9_gather 106 = .ok (.iload 7, 2) := by decide +kernel
theorem dX9_gather_108 : decode cX9_gather 108 = .ok (.iconst 1, 1) := by decide +kernel
theorem dX9_gather_109 : decode cX9_gather 109 = .ok (.isub, 1) := by decide +kernel
theorem dX9_gather_110 : decode cX9_gather 110 = .ok (.iaload, 1) := by decide +kernel
theorem dX9_gather_111 : decode cX9_gather 111 = .ok (.iastore, 1) := by decide +kernel
theorem dX9_gather_112 : decode cX9_gather 112 = .ok (.aload_n 0, 1) := by decide +kernel
theorem dX9_gather_113 : decode cX9_gather 113 = .ok (.getfield 178, 3) := by decide +kernel
theorem dX9_gather_116 : decode cX9_gather 116 = .ok (.iload 7, 2) := by decide +kernel
theorem dX9_gather_118 : decode cX9_gather 118 = .ok (.aload_n 0, 1) := by decide +kernel
theorem dX9_gather_119 : decode cX9_gather 119 = .ok (.getfield 178, 3) := by decide +kernel
theorem dX9_gather_122 : decode cX9_gather 122 = .ok (.iload 7, 2) := by decide +kernel
theorem dX9_gather_124 : decode cX9_gather 124 = .ok (.iconst 1, 1) := by decide +kernel
theorem dX9_gather_125 : decode cX9_gather 125 = .ok (.isub, 1) := by decide +kernel
theorem dX9_gather_126 : decode cX9_gather 126 = .ok (.iaload, 1) := by decide +kernel
theorem dX9_gather_127 : decode cX9_gather 127 = .ok (.iastore, 1) := by decide +kernel
theorem dX9_gather_128 : decode cX9_gather 128 = .ok (.aload_n 0, 1) := by decide +kernel
theorem dX9_gather_129 : decode cX9_gather 129 = .ok (.getfield 181, 3) := by decide +kernel
theorem dX9_gather_132 : decode cX9_gather 132 = .ok (.iload 7, 2) := by decide +kernel
theorem dX9_gather_134 : decode cX9_gather 134 = .ok (.aload_n 0, 1) := by decide +kernel
theorem dX9_gather_135 : decode cX9_gather 135 = .ok (.getfield 181, 3) := by decide +kernel
theorem dX9_gather_138 : decode cX9_gather 138 = .ok (.iload 7, 2) := by decide +kernel
theorem dX9_gather_140 : decode cX9_gather 140 = .ok (.iconst 1, 1) := by decide +kernel
theorem dX9_gather_141 : decode cX9_gather 141 = .ok (.isub, 1) := by decide +kernel
theorem dX9_gather_142 : decode cX9_gather 142 = .ok (.iaload, 1) := by decide +kernel
theorem dX9_gather_143 : decode cX9_gather 143 = .ok (.iastore, 1) := by decide +kernel
theorem dX9_gather_144 : decode cX9_gather 144 = .ok (.iinc 7 (-1), 3) := by decide +kernel
theorem dX9_gather_147 : decode cX9_gather 147 = .ok (.goto (-80), 3) := by decide +kernel
theorem dX9_gather_150 : decode cX9_gather 150 = .ok (.aload_n 0, 1) := by decide +kernel
theorem dX9_gather_151 : decode cX9_gather 151 = .ok (.getfield 175, 3) := by decide +kernel
theorem dX9_gather_154 : decode cX9_gather 154 = .ok (.iload 7, 2) := by decide +kernel
theorem dX9_gather_156 : decode cX9_gather 156 = .ok (.iload 5, 2) := by decide +kernel
theorem dX9_gather_158 : decode cX9_gather 158 = .ok (.iastore, 1) := by decide +kernel
theorem dX9_gather_159 : decode cX9_gather 159 = .ok (.aload_n 0, 1) := by decide +kernel
theorem dX9_gather_160 : decode cX9_gather 160 = .ok (.getfield 178, 3) := by decide +kernel
theorem dX9_gather_163 : decode cX9_gather 163 = .ok (.iload 7, 2) := by decide +kernel
theorem dX9_gather_165 : decode cX9_gather 165 = .ok (.iload 6, 2) := by decide +kernel
theorem dX9_gather_167 : decode cX9_gather 167 = .ok (.iastore, 1) := by decide +kernel
theorem dX9_gather_168 : decode cX9_gather 168 = .ok (.aload_n 0, 1) := by decide +kernel
theorem dX9_gather_169 : decode cX9_gather 169 = .ok (.getfield 181, 3) := by decide +kernel
theorem dX9_gather_172 : decode cX9_gather 172 = .ok (.iload 7, 2) := by decide +kernel
theorem dX9_gather_174 : decode cX9_gather 174 = .ok (.aload_n 0, 1) := by decide +kernel
theorem dX9_gather_175 : decode cX9_gather 175 = .ok (.getfield 432, 3) := by decide +kernel
theorem dX9_gather_178 : decode cX9_gather 178 = .ok (.iastore, 1) := by decide +kernel
theorem dX9_gather_179 : decode cX9_gather 179 = .ok (.aload_n 0, 1) := by decide +kernel
theorem dX9_gather_180 : decode cX9_gather 180 = .ok (.dup, 1) := by decide +kernel
theorem dX9_gather_181 : decode cX9_gather 181 = .ok (.getfield 454, 3) := by decide +kernel
theorem dX9_gather_184 : decode cX9_gather 184 = .ok (.iconst 1, 1) := by decide +kernel
theorem dX9_gather_185 : decode cX9_gather 185 = .ok (.iadd, 1) := by decide +kernel
theorem dX9_gather_186 : decode cX9_gather 186 = .ok (.putfield 454, 3) := by decide +kernel
theorem dX9_gather_189 : decode cX9_gather 189 = .ok (.iinc 5 1, 3) := by decide +kernel
theorem dX9_gather_192 : decode cX9_gather 192 = .ok (.goto (-175), 3) := by decide +kernel
theorem dX9_gather_195 : decode cX9_gather 195 = .ok (.return_, 1) := by decide +kernel
theorem dX9_chainOf_0 : decode cX9_chainOf 0 = .ok (.aload_n 0, 1) := by decide +kernel
theorem dX9_chainOf_1 : decode cX9_chainOf 1 = .ok (.getfield 129, 3) := by decide +kernel
theorem dX9_chainOf_4 : decode cX9_chainOf 4 = .ok (.iload_n 2, 1) := by decide +kernel
theorem dX9_chainOf_5 : decode cX9_chainOf 5 = .ok (.iaload, 1) := by decide +kernel
theorem dX9_chainOf_6 : decode cX9_chainOf 6 = .ok (.istore_n 3, 1) := by decide +kernel
theorem dX9_chainOf_7 : decode cX9_chainOf 7 = .ok (.aload_n 0, 1) := by decide +kernel
theorem dX9_chainOf_8 : decode cX9_chainOf 8 = .ok (.iconst 0, 1) := by decide +kernel
theorem dX9_chainOf_9 : decode cX9_chainOf 9 = .ok (.putfield 457, 3) := by decide +kernel
theorem dX9_chainOf_12 : decode cX9_chainOf 12 = .ok (.aload_n 0, 1) := by decide +kernel
theorem dX9_chainOf_13 : decode cX9_chainOf 13 = .ok (.getfield 454, 3) := by decide +kernel
theorem dX9_chainOf_16 : decode cX9_chainOf 16 = .ok (.iconst 1, 1) := by decide +kernel
theorem dX9_chainOf_17 : decode cX9_chainOf 17 = .ok (.isub, 1) := by decide +kernel
theorem dX9_chainOf_18 : decode cX9_chainOf 18 = .ok (.istore 4, 2) := by decide +kernel
theorem dX9_chainOf_20 : decode cX9_chainOf 20 = .ok (.iload 4, 2) := by decide +kernel
theorem dX9_chainOf_22 : decode cX9_chainOf 22 = .ok (.ifCond .lt 25, 3) := by decide +kernel
theorem dX9_chainOf_25 : decode cX9_chainOf 25 = .ok (.aload_n 0, 1) := by decide +kernel
theorem dX9_chainOf_26 : decode cX9_chainOf 26 = .ok (.getfield 129, 3) := by decide +kernel
theorem dX9_chainOf_29 : decode cX9_chainOf 29 = .ok (.aload_n 0, 1) := by decide +kernel
theorem dX9_chainOf_30 : decode cX9_chainOf 30 = .ok (.getfield 175, 3) := by decide +kernel
theorem dX9_chainOf_33 : decode cX9_chainOf 33 = .ok (.iload 4, 2) := by decide +kernel
theorem dX9_chainOf_35 : decode cX9_chainOf 35 = .ok (.iaload, 1) := by decide +kernel
theorem dX9_chainOf_36 : decode cX9_chainOf 36 = .ok (.iaload, 1) := by decide +kernel
theorem dX9_chainOf_37 : decode cX9_chainOf 37 = .ok (.iload_n 3, 1) := by decide +kernel
theorem dX9_chainOf_38 : decode cX9_chainOf 38 = .ok (.if_icmp .le 9, 3) := by decide +kernel
theorem dX9_chainOf_41 : decode cX9_chainOf 41 = .ok (.iinc 4 (-1), 3) := by decide +kernel
theorem dX9_chainOf_44 : decode cX9_chainOf 44 = .ok (.goto (-24), 3) := by decide +kernel
theorem dX9_chainOf_47 : decode cX9_chainOf 47 = .ok (.iload 4, 2) := by decide +kernel
theorem dX9_chainOf_49 : decode cX9_chainOf 49 = .ok (.ifCond .ge 7, 3) := by decide +kernel
theorem dX9_chainOf_52 : decode cX9_chainOf 52 = .ok (.iconst 0, 1) := by decide +kernel
theorem dX9_chainOf_53 : decode cX9_chainOf 53 = .ok (.goto 4, 3) := by decide +kernel
theorem dX9_chainOf_56 : decode cX9_chainOf 56 = .ok (.iload_n 3, 1) := by decide +kernel
theorem dX9_chainOf_57 : decode cX9_chainOf 57 = .ok (.istore 5, 2) := by decide +kernel
theorem dX9_chainOf_59 : decode cX9_chainOf 59 = .ok (.aload_n 0, 1) := by decide +kernel
theorem dX9_chainOf_60 : decode cX9_chainOf 60 = .ok (.getfield 62, 3) := by decide +kernel
theorem dX9_chainOf_63 : decode cX9_chainOf 63 = .ok (.bipush 7, 2) := by decide +kernel
theorem dX9_chainOf_65 : decode cX9_chainOf 65 = .ok (.iload_n 1, 1) := by decide +kernel
theorem dX9_chainOf_66 : decode cX9_chainOf 66 = .ok (.imul, 1) := by decide +kernel
theorem dX9_chainOf_67 : decode cX9_chainOf 67 = .ok (.iconst 4, 1) := by decide +kernel
theorem dX9_chainOf_68 : decode cX9_chainOf 68 = .ok (.iadd, 1) := by decide +kernel
theorem dX9_chainOf_69 : decode cX9_chainOf 69 = .ok (.iaload, 1) := by decide +kernel
theorem dX9_chainOf_70 : decode cX9_chainOf 70 = .ok (.istore 6, 2) := by decide +kernel
theorem dX9_chainOf_72 : decode cX9_chainOf 72 = .ok (.iload 4, 2) := by decide +kernel
theorem dX9_chainOf_74 : decode cX9_chainOf 74 = .ok (.ifCond .lt 105, 3) := by decide +kernel
theorem dX9_chainOf_77 : decode cX9_chainOf 77 = .ok (.iload 5, 2) := by decide +kernel
theorem dX9_chainOf_79 : decode cX9_chainOf 79 = .ok (.aload_n 0, 1) := by decide +kernel
theorem dX9_chainOf_80 : decode cX9_chainOf 80 = .ok (.getfield 129, 3) := by decide +kernel
theorem dX9_chainOf_83 : decode cX9_chainOf 83 = .ok (.aload_n 0, 1) := by decide +kernel
theorem dX9_chainOf_84 : decode cX9_chainOf 84 = .ok (.getfield 175, 3) := by decide +kernel
theorem dX9_chainOf_87 : decode cX9_chainOf 87 = .ok (.iload 4, 2) := by decide +kernel
theorem dX9_chainOf_89 : decode cX9_chainOf 89 = .ok (.iaload, 1) := by decide +kernel
theorem dX9_chainOf_90 : decode cX9_chainOf 90 = .ok (.iaload, 1) := by decide +kernel
theorem dX9_chainOf_91 : decode cX9_chainOf 91 = .ok (.isub, 1) := by decide +kernel
theorem dX9_chainOf_92 : decode cX9_chainOf 92 = .ok (.iload 6, 2) := by decide +kernel
theorem dX9_chainOf_94 : decode cX9_chainOf 94 = .ok (.if_icmp .gt 85, 3) := by decide +kernel
theorem dX9_chainOf_97 : decode cX9_chainOf 97 = .ok (.iload_n 3, 1) := by decide +kernel
theorem dX9_chainOf_98 : decode cX9_chainOf 98 = .ok (.aload_n 0, 1) := by decide +kernel
theorem dX9_chainOf_99 : decode cX9_chainOf 99 = .ok (.getfield 129, 3) := by decide +kernel
theorem dX9_chainOf_102 : decode cX9_chainOf 102 = .ok (.aload_n 0, 1) := by decide +kernel
theorem dX9_chainOf_103 : decode cX9_chainOf 103 = .ok (.getfield 175, 3) := by decide +kernel
theorem dX9_chainOf_106 : decode cX9_chainOf 106 = .ok (.iload 4, 2) := by decide +kernel
theorem dX9_chainOf_108 : decode cX9_chainOf 108 = .ok (.iaload, 1) := by decide +kernel
theorem dX9_chainOf_109 : decode cX9_chainOf 109 = .ok (.iaload, 1) := by decide +kernel
theorem dX9_chainOf_110 : decode cX9_chainOf 110 = .ok (.isub, 1) := by decide +kernel
theorem dX9_chainOf_111 : decode cX9_chainOf 111 = .ok (.aload_n 0, 1) := by decide +kernel
theorem dX9_chainOf_112 : decode cX9_chainOf 112 = .ok (.getfield 62, 3) := by decide +kernel
theorem dX9_chainOf_115 : decode cX9_chainOf 115 = .ok (.bipush 7, 2) := by decide +kernel
theorem dX9_chainOf_117 : decode cX9_chainOf 117 = .ok (.iload_n 1, 1) := by decide +kernel
theorem dX9_chainOf_118 : decode cX9_chainOf 118 = .ok (.imul, 1) := by decide +kernel
theorem dX9_chainOf_119 : decode cX9_chainOf 119 = .ok (.iconst 5, 1) := by decide +kernel
theorem dX9_chainOf_120 : decode cX9_chainOf 120 = .ok (.iadd, 1) := by decide +kernel
theorem dX9_chainOf_121 : decode cX9_chainOf 121 = .ok (.iaload, 1) := by decide +kernel
theorem dX9_chainOf_122 : decode cX9_chainOf 122 = .ok (.if_icmp .gt 24, 3) := by decide +kernel
theorem dX9_chainOf_125 : decode cX9_chainOf 125 = .ok (.aload_n 0, 1) := by decide +kernel
theorem dX9_chainOf_126 : decode cX9_chainOf 126 = .ok (.getfield 184, 3) := by decide +kernel
theorem dX9_chainOf_129 : decode cX9_chainOf 129 = .ok (.aload_n 0, 1) := by decide +kernel
theorem dX9_chainOf_130 : decode cX9_chainOf 130 = .ok (.getfield 457, 3) := by decide +kernel
theorem dX9_chainOf_133 : decode cX9_chainOf 133 = .ok (.iload 4, 2) := by decide +kernel
theorem dX9_chainOf_135 : decode cX9_chainOf 135 = .ok (.iastore, 1) := by decide +kernel
theorem dX9_chainOf_136 : decode cX9_chainOf 136 = .ok (.aload_n 0, 1) := by decide +kernel
theorem dX9_chainOf_137 : decode cX9_chainOf 137 = .ok (.dup, 1) := by decide +kernel
theorem dX9_chainOf_138 : decode cX9_chainOf 138 = .ok (.getfield 457, 3) := by decide +kernel
theorem dX9_chainOf_141 : decode cX9_chainOf 141 = .ok (.iconst 1, 1) := by decide +kernel
theorem dX9_chainOf_142 : decode cX9_chainOf 142 = .ok (.iadd, 1) := by decide +kernel
theorem dX9_chainOf_143 : decode cX9_chainOf 143 = .ok (.putfield 457, 3) := by decide +kernel
theorem dX9_chainOf_146 : decode cX9_chainOf 146 = .ok (.aload_n 0, 1) := by decide +kernel
theorem dX9_chainOf_147 : decode cX9_chainOf 147 = .ok (.getfield 129, 3) := by decide +kernel
theorem dX9_chainOf_150 : decode cX9_chainOf 150 = .ok (.aload_n 0, 1) := by decide +kernel
theorem dX9_chainOf_151 : decode cX9_chainOf 151 = .ok (.getfield 175, 3) := by decide +kernel
theorem dX9_chainOf_154 : decode cX9_chainOf 154 = .ok (.iload 4, 2) := by decide +kernel
theorem dX9_chainOf_156 : decode cX9_chainOf 156 = .ok (.iaload, 1) := by decide +kernel
theorem dX9_chainOf_157 : decode cX9_chainOf 157 = .ok (.iaload, 1) := by decide +kernel
theorem dX9_chainOf_158 : decode cX9_chainOf 158 = .ok (.istore 5, 2) := by decide +kernel
theorem dX9_chainOf_160 : decode cX9_chainOf 160 = .ok (.aload_n 0, 1) := by decide +kernel
theorem dX9_chainOf_161 : decode cX9_chainOf 161 = .ok (.getfield 62, 3) := by decide +kernel
theorem dX9_chainOf_164 : decode cX9_chainOf 164 = .ok (.bipush 7, 2) := by decide +kernel
theorem dX9_chainOf_166 : decode cX9_chainOf 166 = .ok (.iload_n 1, 1) := by decide +kernel
theorem dX9_chainOf_167 : decode cX9_chainOf 167 = .ok (.imul, 1) := by decide +kernel
theorem dX9_chainOf_168 : decode cX9_chainOf 168 = .ok (.iconst 3, 1) := by decide +kernel
theorem dX9_chainOf_169 : decode cX9_chainOf 169 = .ok (.iadd, 1) := by decide +kernel
theorem dX9_chainOf_170 : decode cX9_chainOf 170 = .ok (.iaload, 1) := by decide +kernel
theorem dX9_chainOf_171 : decode cX9_chainOf 171 = .ok (.istore 6, 2) := by decide +kernel
theorem dX9_chainOf_173 : decode cX9_chainOf 173 = .ok (.iinc 4 (-1), 3) := by decide +kernel
theorem dX9_chainOf_176 : decode cX9_chainOf 176 = .ok (.goto (-104), 3) := by decide +kernel
theorem dX9_chainOf_179 : decode cX9_chainOf 179 = .ok (.return_, 1) := by decide +kernel
theorem dX9_withInterest_0 : decode cX9_withInterest 0 = .ok (.aload_n 0, 1) := by decide +kernel
theorem dX9_withInterest_1 : decode cX9_withInterest 1 = .ok (.getfield 178, 3) := by decide +kernel
theorem dX9_withInterest_4 : decode cX9_withInterest 4 = .ok (.iload_n 2, 1) := by decide +kernel
theorem dX9_withInterest_5 : decode cX9_withInterest 5 = .ok (.iaload, 1) := by decide +kernel
theorem dX9_withInterest_6 : decode cX9_withInterest 6 = .ok (.i2l, 1) := by decide +kernel
theorem dX9_withInterest_7 : decode cX9_withInterest 7 = .ok (.aload_n 0, 1) := by decide +kernel
theorem dX9_withInterest_8 : decode cX9_withInterest 8 = .ok (.getfield 178, 3) := by decide +kernel
theorem dX9_withInterest_11 : decode cX9_withInterest 11 = .ok (.iload_n 2, 1) := by decide +kernel
theorem dX9_withInterest_12 : decode cX9_withInterest 12 = .ok (.iaload, 1) := by decide +kernel
theorem dX9_withInterest_13 : decode cX9_withInterest 13 = .ok (.i2l, 1) := by decide +kernel
theorem dX9_withInterest_14 : decode cX9_withInterest 14 = .ok (.aload_n 0, 1) := by decide +kernel
theorem dX9_withInterest_15 : decode cX9_withInterest 15 = .ok (.getfield 62, 3) := by decide +kernel
theorem dX9_withInterest_18 : decode cX9_withInterest 18 = .ok (.bipush 7, 2) := by decide +kernel
theorem dX9_withInterest_20 : decode cX9_withInterest 20 = .ok (.iload_n 1, 1) := by decide +kernel
theorem dX9_withInterest_21 : decode cX9_withInterest 21 = .ok (.imul, 1) := by decide +kernel
theorem dX9_withInterest_22 : decode cX9_withInterest 22 = .ok (.bipush 6, 2) := by decide +kernel
theorem dX9_withInterest_24 : decode cX9_withInterest 24 = .ok (.iadd, 1) := by decide +kernel
theorem dX9_withInterest_25 : decode cX9_withInterest 25 = .ok (.iaload, 1) := by decide +kernel
theorem dX9_withInterest_26 : decode cX9_withInterest 26 = .ok (.i2l, 1) := by decide +kernel
theorem dX9_withInterest_27 : decode cX9_withInterest 27 = .ok (.lmul, 1) := by decide +kernel
theorem dX9_withInterest_28 : decode cX9_withInterest 28 = .ok (.iload_n 3, 1) := by decide +kernel
theorem dX9_withInterest_29 : decode cX9_withInterest 29 = .ok (.aload_n 0, 1) := by decide +kernel
theorem dX9_withInterest_30 : decode cX9_withInterest 30 = .ok (.getfield 129, 3) := by decide +kernel
theorem dX9_withInterest_33 : decode cX9_withInterest 33 = .ok (.aload_n 0, 1) := by decide +kernel
theorem dX9_withInterest_34 : decode cX9_withInterest 34 = .ok (.getfield 175, 3) := by decide +kernel
theorem dX9_withInterest_37 : decode cX9_withInterest 37 = .ok (.iload_n 2, 1) := by decide +kernel
theorem dX9_withInterest_38 : decode cX9_withInterest 38 = .ok (.iaload, 1) := by decide +kernel
theorem dX9_withInterest_39 : decode cX9_withInterest 39 = .ok (.iaload, 1) := by decide +kernel
theorem dX9_withInterest_40 : decode cX9_withInterest 40 = .ok (.isub, 1) := by decide +kernel
theorem dX9_withInterest_41 : decode cX9_withInterest 41 = .ok (.i2l, 1) := by decide +kernel
theorem dX9_withInterest_42 : decode cX9_withInterest 42 = .ok (.lmul, 1) := by decide +kernel
theorem dX9_withInterest_43 : decode cX9_withInterest 43 = .ok (.ldc2_w 470, 3) := by decide +kernel
theorem dX9_withInterest_46 : decode cX9_withInterest 46 = .ok (.ldiv, 1) := by decide +kernel
theorem dX9_withInterest_47 : decode cX9_withInterest 47 = .ok (.ladd, 1) := by decide +kernel
theorem dX9_withInterest_48 : decode cX9_withInterest 48 = .ok (.lreturn, 1) := by decide +kernel
theorem dX9_payoutOf_0 : decode cX9_payoutOf 0 = .ok (.aload_n 0, 1) := by decide +kernel
theorem dX9_payoutOf_1 : decode cX9_payoutOf 1 = .ok (.iload_n 1, 1) := by decide +kernel
theorem dX9_payoutOf_2 : decode cX9_payoutOf 2 = .ok (.iload_n 2, 1) := by decide +kernel
theorem dX9_payoutOf_3 : decode cX9_payoutOf 3 = .ok (.iload_n 3, 1) := by decide +kernel
theorem dX9_payoutOf_4 : decode cX9_payoutOf 4 = .ok (.iload 4, 2) := by decide +kernel
theorem dX9_payoutOf_6 : decode cX9_payoutOf 6 = .ok (.invokevirtual 460, 3) := by decide +kernel
theorem dX9_payoutOf_9 : decode cX9_payoutOf 9 = .ok (.iconst 0, 1) := by decide +kernel
theorem dX9_payoutOf_10 : decode cX9_payoutOf 10 = .ok (.istore 5, 2) := by decide +kernel
theorem dX9_payoutOf_12 : decode cX9_payoutOf 12 = .ok (.iload 5, 2) := by decide +kernel
theorem dX9_payoutOf_14 : decode cX9_payoutOf 14 = .ok (.aload_n 0, 1) := by decide +kernel
theorem dX9_payoutOf_15 : decode cX9_payoutOf 15 = .ok (.getfield 454, 3) := by decide +kernel
theorem dX9_payoutOf_18 : decode cX9_payoutOf 18 = .ok (.if_icmp .ge 17, 3) := by decide +kernel
theorem dX9_payoutOf_21 : decode cX9_payoutOf 21 = .ok (.aload_n 0, 1) := by decide +kernel
theorem dX9_payoutOf_22 : decode cX9_payoutOf 22 = .ok (.getfield 187, 3) := by decide +kernel
theorem dX9_payoutOf_25 : decode cX9_payoutOf 25 = .ok (.iload 5, 2) := by decide +kernel
theorem dX9_payoutOf_27 : decode cX9_payoutOf 27 = .ok (.iconst (-1), 1) := by decide +kernel
theorem dX9_payoutOf_28 : decode cX9_payoutOf 28 = .ok (.iastore, 1) := by decide +kernel
theorem dX9_payoutOf_29 : decode cX9_payoutOf 29 = .ok (.iinc 5 1, 3) := by decide +kernel
theorem dX9_payoutOf_32 : decode cX9_payoutOf 32 = .ok (.goto (-20), 3) := by decide +kernel
theorem dX9_payoutOf_35 : decode cX9_payoutOf 35 = .ok (.iconst 0, 1) := by decide +kernel
theorem dX9_payoutOf_36 : decode cX9_payoutOf 36 = .ok (.istore 5, 2) := by decide +kernel
theorem dX9_payoutOf_38 : decode cX9_payoutOf 38 = .ok (.iload 5, 2) := by decide +kernel
theorem dX9_payoutOf_40 : decode cX9_payoutOf 40 = .ok (.aload_n 0, 1) := by decide +kernel
theorem dX9_payoutOf_41 : decode cX9_payoutOf 41 = .ok (.getfield 340, 3) := by decide +kernel
theorem dX9_payoutOf_44 : decode cX9_payoutOf 44 = .ok (.if_icmp .ge 106, 3) := by decide +kernel
theorem dX9_payoutOf_47 : decode cX9_payoutOf 47 = .ok (.aload_n 0, 1) := by decide +kernel
theorem dX9_payoutOf_48 : decode cX9_payoutOf 48 = .ok (.iload 5, 2) := by decide +kernel
theorem dX9_payoutOf_50 : decode cX9_payoutOf 50 = .ok (.iconst 5, 1) := by decide +kernel
theorem dX9_payoutOf_51 : decode cX9_payoutOf 51 = .ok (.iload_n 2, 1) := by decide +kernel
theorem dX9_payoutOf_52 : decode cX9_payoutOf 52 = .ok (.iload 4, 2) := by decide +kernel
theorem dX9_payoutOf_54 : decode cX9_payoutOf 54 = .ok (.invokevirtual 362, 3) := by decide +kernel
theorem dX9_payoutOf_57 : decode cX9_payoutOf 57 = .ok (.ifCond .ne 6, 3) := by decide +kernel
theorem dX9_payoutOf_60 : decode cX9_payoutOf 60 = .ok (.goto 84, 3) := by decide +kernel
theorem dX9_payoutOf_63 : decode cX9_payoutOf 63 = .ok (.aload_n 0, 1) := by decide +kernel
theorem dX9_payoutOf_64 : decode cX9_payoutOf 64 = .ok (.iload_n 1, 1) := by decide +kernel
theorem dX9_payoutOf_65 : decode cX9_payoutOf 65 = .ok (.iload 5, 2) := by decide +kernel
theorem dX9_payoutOf_67 : decode cX9_payoutOf 67 = .ok (.invokevirtual 463, 3) := by decide +kernel
theorem dX9_payoutOf_70 : decode cX9_payoutOf 70 = .ok (.iconst 0, 1) := by decide +kernel
theorem dX9_payoutOf_71 : decode cX9_payoutOf 71 = .ok (.istore 6, 2) := by decide +kernel
theorem dX9_payoutOf_73 : decode cX9_payoutOf 73 = .ok (.iload 6, 2) := by decide +kernel
theorem dX9_payoutOf_75 : decode cX9_payoutOf 75 = .ok (.aload_n 0, 1) := by decide +kernel
theorem dX9_payoutOf_76 : decode cX9_payoutOf 76 = .ok (.getfield 457, 3) := by decide +kernel
theorem dX9_payoutOf_79 : decode cX9_payoutOf 79 = .ok (.if_icmp .ge 65, 3) := by decide +kernel
theorem dX9_payoutOf_82 : decode cX9_payoutOf 82 = .ok (.aload_n 0, 1) := by decide +kernel
theorem dX9_payoutOf_83 : decode cX9_payoutOf 83 = .ok (.getfield 187, 3) := by decide +kernel
theorem dX9_payoutOf_86 : decode cX9_payoutOf 86 = .ok (.aload_n 0, 1) := by decide +kernel
theorem dX9_payoutOf_87 : decode cX9_payoutOf 87 = .ok (.getfield 184, 3) := by decide +kernel
theorem dX9_payoutOf_90 : decode cX9_payoutOf 90 = .ok (.iload 6, 2) := by decide +kernel
theorem dX9_payoutOf_92 : decode cX9_payoutOf 92 = .ok (.iaload, 1) := by decide +kernel
theorem dX9_payoutOf_93 : decode cX9_payoutOf 93 = .ok (.iaload, 1) := by decide +kernel
theorem dX9_payoutOf_94 : decode cX9_payoutOf 94 = .ok (.ifCond .lt 25, 3) := by decide +kernel
theorem dX9_payoutOf_97 : decode cX9_payoutOf 97 = .ok (.aload_n 0, 1) := by decide +kernel
theorem dX9_payoutOf_98 : decode cX9_payoutOf 98 = .ok (.getfield 129, 3) := by decide +kernel
theorem dX9_payoutOf_101 : decode cX9_payoutOf 101 = .ok (.iload 5, 2) := by decide +kernel
theorem dX9_payoutOf_103 : decode cX9_payoutOf 103 = .ok (.iaload, 1) := by decide +kernel
theorem dX9_payoutOf_104 : decode cX9_payoutOf 104 = .ok (.aload_n 0, 1) := by decide +kernel
theorem dX9_payoutOf_105 : decode cX9_payoutOf 105 = .ok (.getfield 187, 3) := by decide +kernel
theorem dX9_payoutOf_108 : decode cX9_payoutOf 108 = .ok (.aload_n 0, 1) := by decide +kernel
theorem dX9_payoutOf_109 : decode cX9_payoutOf 109 = .ok (.getfield 184, 3) := by decide +kernel
theorem dX9_payoutOf_112 : decode cX9_payoutOf 112 = .ok (.iload 6, 2) := by decide +kernel
theorem dX9_payoutOf_114 : decode cX9_payoutOf 114 = .ok (.iaload, 1) := by decide +kernel
theorem dX9_payoutOf_115 : decode cX9_payoutOf 115 = .ok (.iaload, 1) := by decide +kernel
theorem dX9_payoutOf_116 : decode cX9_payoutOf 116 = .ok (.if_icmp .ge 22, 3) := by decide +kernel
theorem dX9_payoutOf_119 : decode cX9_payoutOf 119 = .ok (.aload_n 0, 1) := by decide +kernel
theorem dX9_payoutOf_120 : decode cX9_payoutOf 120 = .ok (.getfield 187, 3) := by decide +kernel
theorem dX9_payoutOf_123 : decode cX9_payoutOf 123 = .ok (.aload_n 0, 1) := by decide +kernel
theorem dX9_payoutOf_124 : decode cX9_payoutOf 124 = .ok (.getfield 184, 3) := by decide +kernel
theorem dX9_payoutOf_127 : decode cX9_payoutOf 127 = .ok (.iload 6, 2) := by decide +kernel
theorem dX9_payoutOf_129 : decode cX9_payoutOf 129 = .ok (.iaload, 1) := by decide +kernel
theorem dX9_payoutOf_130 : decode cX9_payoutOf 130 = .ok (.aload_n 0, 1) := by decide +kernel
theorem dX9_payoutOf_131 : decode cX9_payoutOf 131 = .ok (.getfield 129, 3) := by decide +kernel
theorem dX9_payoutOf_134 : decode cX9_payoutOf 134 = .ok (.iload 5, 2) := by decide +kernel
theorem dX9_payoutOf_136 : decode cX9_payoutOf 136 = .ok (.iaload, 1) := by decide +kernel
theorem dX9_payoutOf_137 : decode cX9_payoutOf 137 = .ok (.iastore, 1) := by decide +kernel
theorem dX9_payoutOf_138 : decode cX9_payoutOf 138 = .ok (.iinc 6 1, 3) := by decide +kernel
theorem dX9_payoutOf_141 : decode cX9_payoutOf 141 = .ok (.goto (-68), 3) := by decide +kernel
theorem dX9_payoutOf_144 : decode cX9_payoutOf 144 = .ok (.iinc 5 1, 3) := by decide +kernel
theorem dX9_payoutOf_147 : decode cX9_payoutOf 147 = .ok (.goto (-109), 3) := by decide +kernel
theorem dX9_payoutOf_150 : decode cX9_payoutOf 150 = .ok (.lconst 0, 1) := by decide +kernel
theorem dX9_payoutOf_151 : decode cX9_payoutOf 151 = .ok (.lstore 5, 2) := by decide +kernel
theorem dX9_payoutOf_153 : decode cX9_payoutOf 153 = .ok (.aload_n 0, 1) := by decide +kernel
theorem dX9_payoutOf_154 : decode cX9_payoutOf 154 = .ok (.iconst 0, 1) := by decide +kernel
theorem dX9_payoutOf_155 : decode cX9_payoutOf 155 = .ok (.putfield 477, 3) := by decide +kernel
theorem dX9_payoutOf_158 : decode cX9_payoutOf 158 = .ok (.iconst 0, 1) := by decide +kernel
theorem dX9_payoutOf_159 : decode cX9_payoutOf 159 = .ok (.istore 7, 2) := by decide +kernel
theorem dX9_payoutOf_161 : decode cX9_payoutOf 161 = .ok (.iload 7, 2) := by decide +kernel
theorem dX9_payoutOf_163 : decode cX9_payoutOf 163 = .ok (.aload_n 0, 1) := by decide +kernel
theorem dX9_payoutOf_164 : decode cX9_payoutOf 164 = .ok (.getfield 454, 3) := by decide +kernel
theorem dX9_payoutOf_167 : decode cX9_payoutOf 167 = .ok (.if_icmp .ge 57, 3) := by decide +kernel
theorem dX9_payoutOf_170 : decode cX9_payoutOf 170 = .ok (.aload_n 0, 1) := by decide +kernel
theorem dX9_payoutOf_171 : decode cX9_payoutOf 171 = .ok (.getfield 187, 3) := by decide +kernel
theorem dX9_payoutOf_174 : decode cX9_payoutOf 174 = .ok (.iload 7, 2) := by decide +kernel
theorem dX9_payoutOf_176 : decode cX9_payoutOf 176 = .ok (.iaload, 1) := by decide +kernel
theorem dX9_payoutOf_177 : decode cX9_payoutOf 177 = .ok (.ifCond .ge 6, 3) := by decide +kernel
theorem dX9_payoutOf_180 : decode cX9_payoutOf 180 = .ok (.goto 38, 3) := by decide +kernel
theorem dX9_payoutOf_183 : decode cX9_payoutOf 183 = .ok (.lload 5, 2) := by decide +kernel
theorem dX9_payoutOf_185 : decode cX9_payoutOf 185 = .ok (.aload_n 0, 1) := by decide +kernel
theorem dX9_payoutOf_186 : decode cX9_payoutOf 186 = .ok (.iload_n 1, 1) := by decide +kernel
theorem dX9_payoutOf_187 : decode cX9_payoutOf 187 = .ok (.iload 7, 2) := by decide +kernel
theorem dX9_payoutOf_189 : decode cX9_payoutOf 189 = .ok (.aload_n 0, 1) := by decide +kernel
theorem dX9_payoutOf_190 : decode cX9_payoutOf 190 = .ok (.getfield 187, 3) := by decide +kernel
theorem dX9_payoutOf_193 : decode cX9_payoutOf 193 = .ok (.iload 7, 2) := by decide +kernel
theorem dX9_payoutOf_195 : decode cX9_payoutOf 195 = .ok (.iaload, 1) := by decide +kernel
theorem dX9_payoutOf_196 : decode cX9_payoutOf 196 = .ok (.invokevirtual 474, 3) := by decide +kernel
theorem dX9_payoutOf_199 : decode cX9_payoutOf 199 = .ok (.ladd, 1) := by decide +kernel
theorem dX9_payoutOf_200 : decode cX9_payoutOf 200 = .ok (.lstore 5, 2) := by decide +kernel
theorem dX9_payoutOf_202 : decode cX9_payoutOf 202 = .ok (.aload_n 0, 1) := by decide +kernel
theorem dX9_payoutOf_203 : decode cX9_payoutOf 203 = .ok (.dup, 1) := by decide +kernel
theorem dX9_payoutOf_204 : decode cX9_payoutOf 204 = .ok (.getfield 477, 3) := by decide +kernel
theorem dX9_payoutOf_207 : decode cX9_payoutOf 207 = .ok (.aload_n 0, 1) := by decide +kernel
theorem dX9_payoutOf_208 : decode cX9_payoutOf 208 = .ok (.getfield 181, 3) := by decide +kernel
theorem dX9_payoutOf_211 : decode cX9_payoutOf 211 = .ok (.iload 7, 2) := by decide +kernel
theorem dX9_payoutOf_213 : decode cX9_payoutOf 213 = .ok (.iaload, 1) := by decide +kernel
theorem dX9_payoutOf_214 : decode cX9_payoutOf 214 = .ok (.ior, 1) := by decide +kernel
theorem dX9_payoutOf_215 : decode cX9_payoutOf 215 = .ok (.putfield 477, 3) := by decide +kernel
theorem dX9_payoutOf_218 : decode cX9_payoutOf 218 = .ok (.iinc 7 1, 3) := by decide +kernel
theorem dX9_payoutOf_221 : decode cX9_payoutOf 221 = .ok (.goto (-60), 3) := by decide +kernel
theorem dX9_payoutOf_224 : decode cX9_payoutOf 224 = .ok (.lload 5, 2) := by decide +kernel
theorem dX9_payoutOf_226 : decode cX9_payoutOf 226 = .ok (.lreturn, 1) := by decide +kernel
theorem dX9_allOf_0 : decode cX9_allOf 0 = .ok (.lconst 0, 1) := by decide +kernel
theorem dX9_allOf_1 : decode cX9_allOf 1 = .ok (.lstore 4, 2) := by decide +kernel
theorem dX9_allOf_3 : decode cX9_allOf 3 = .ok (.iconst 0, 1) := by decide +kernel
theorem dX9_allOf_4 : decode cX9_allOf 4 = .ok (.istore 6, 2) := by decide +kernel
theorem dX9_allOf_6 : decode cX9_allOf 6 = .ok (.iload 6, 2) := by decide +kernel
theorem dX9_allOf_8 : decode cX9_allOf 8 = .ok (.aload_n 0, 1) := by decide +kernel
theorem dX9_allOf_9 : decode cX9_allOf 9 = .ok (.getfield 337, 3) := by decide +kernel
theorem dX9_allOf_12 : decode cX9_allOf 12 = .ok (.if_icmp .ge 23, 3) := by decide +kernel
theorem dX9_allOf_15 : decode cX9_allOf 15 = .ok (.lload 4, 2) := by decide +kernel
theorem dX9_allOf_17 : decode cX9_allOf 17 = .ok (.aload_n 0, 1) := by decide +kernel
theorem dX9_allOf_18 : decode cX9_allOf 18 = .ok (.iload_n 1, 1) := by decide +kernel
theorem dX9_allOf_19 : decode cX9_allOf 19 = .ok (.iload 6, 2) := by decide +kernel
theorem dX9_allOf_21 : decode cX9_allOf 21 = .ok (.iload_n 2, 1) := by decide +kernel
theorem dX9_allOf_22 : decode cX9_allOf 22 = .ok (.iload_n 3, 1) := by decide +kernel
theorem dX9_allOf_23 : decode cX9_allOf 23 = .ok (.invokevirtual 480, 3) := by decide +kernel
theorem dX9_allOf_26 : decode cX9_allOf 26 = .ok (.ladd, 1) := by decide +kernel
theorem dX9_allOf_27 : decode cX9_allOf 27 = .ok (.lstore 4, 2) := by decide +kernel
theorem dX9_allOf_29 : decode cX9_allOf 29 = .ok (.iinc 6 1, 3) := by decide +kernel
theorem dX9_allOf_32 : decode cX9_allOf 32 = .ok (.goto (-26), 3) := by decide +kernel
theorem dX9_allOf_35 : decode cX9_allOf 35 = .ok (.lload 4, 2) := by decide +kernel
theorem dX9_allOf_37 : decode cX9_allOf 37 = .ok (.lreturn, 1) := by decide +kernel
theorem dX9_isOf_0 : decode cX9_isOf 0 = .ok (.iload_n 1, 1) := by decide +kernel
theorem dX9_isOf_1 : decode cX9_isOf 1 = .ok (.ifCond .lt 25, 3) := by decide +kernel
theorem dX9_isOf_4 : decode cX9_isOf 4 = .ok (.iload_n 1, 1) := by decide +kernel
theorem dX9_isOf_5 : decode cX9_isOf 5 = .ok (.aload_n 0, 1) := by decide +kernel
theorem dX9_isOf_6 : decode cX9_isOf 6 = .ok (.getfield 340, 3) := by decide +kernel
theorem dX9_isOf_9 : decode cX9_isOf 9 = .ok (.if_icmp .ge 17, 3) := by decide +kernel
theorem dX9_isOf_12 : decode cX9_isOf 12 = .ok (.aload_n 0, 1) := by decide +kernel
theorem dX9_isOf_13 : decode cX9_isOf 13 = .ok (.getfield 123, 3) := by decide +kernel
theorem dX9_isOf_16 : decode cX9_isOf 16 = .ok (.iload_n 1, 1) := by decide +kernel
theorem dX9_isOf_17 : decode cX9_isOf 17 = .ok (.iaload, 1) := by decide +kernel
theorem dX9_isOf_18 : decode cX9_isOf 18 = .ok (.iload_n 2, 1) := by decide +kernel
theorem dX9_isOf_19 : decode cX9_isOf 19 = .ok (.if_icmp .ne 7, 3) := by decide +kernel
theorem dX9_isOf_22 : decode cX9_isOf 22 = .ok (.iconst 1, 1) := by decide +kernel
theorem dX9_isOf_23 : decode cX9_isOf 23 = .ok (.goto 4, 3) := by decide +kernel
theorem dX9_isOf_26 : decode cX9_isOf 26 = .ok (.iconst 0, 1) := by decide +kernel
theorem dX9_isOf_27 : decode cX9_isOf 27 = .ok (.ireturn, 1) := by decide +kernel
theorem dX9_average_0 : decode cX9_average 0 = .ok (.iload_n 1, 1) := by decide +kernel
theorem dX9_average_1 : decode cX9_average 1 = .ok (.invokestatic 200, 3) := by decide +kernel
theorem dX9_average_4 : decode cX9_average 4 = .ok (.ifCond .eq 12, 3) := by decide +kernel
theorem dX9_average_7 : decode cX9_average 7 = .ok (.aload_n 0, 1) := by decide +kernel
theorem dX9_average_8 : decode cX9_average 8 = .ok (.iload_n 2, 1) := by decide +kernel
theorem dX9_average_9 : decode cX9_average 9 = .ok (.iconst 3, 1) := by decide +kernel
theorem dX9_average_10 : decode cX9_average 10 = .ok (.invokevirtual 445, 3) := by decide +kernel
theorem dX9_average_13 : decode cX9_average 13 = .ok (.ifCond .ne 5, 3) := by decide +kernel
theorem dX9_average_16 : decode cX9_average 16 = .ok (.iconst (-1), 1) := by decide +kernel
theorem dX9_average_17 : decode cX9_average 17 = .ok (.ireturn, 1) := by decide +kernel
theorem dX9_average_18 : decode cX9_average 18 = .ok (.aload_n 0, 1) := by decide +kernel
theorem dX9_average_19 : decode cX9_average 19 = .ok (.iload_n 1, 1) := by decide +kernel
theorem dX9_average_20 : decode cX9_average 20 = .ok (.aload_n 0, 1) := by decide +kernel
theorem dX9_average_21 : decode cX9_average 21 = .ok (.getfield 126, 3) := by decide +kernel
theorem dX9_average_24 : decode cX9_average 24 = .ok (.iload_n 2, 1) := by decide +kernel
theorem dX9_average_25 : decode cX9_average 25 = .ok (.iaload, 1) := by decide +kernel
theorem dX9_average_26 : decode cX9_average 26 = .ok (.iload_n 3, 1) := by decide +kernel
theorem dX9_average_27 : decode cX9_average 27 = .ok (.iload 4, 2) := by decide +kernel
theorem dX9_average_29 : decode cX9_average 29 = .ok (.invokevirtual 425, 3) := by decide +kernel
theorem dX9_average_32 : decode cX9_average 32 = .ok (.aload_n 0, 1) := by decide +kernel
theorem dX9_average_33 : decode cX9_average 33 = .ok (.iload_n 1, 1) := by decide +kernel
theorem dX9_average_34 : decode cX9_average 34 = .ok (.iload_n 2, 1) := by decide +kernel
theorem dX9_average_35 : decode cX9_average 35 = .ok (.invokevirtual 438, 3) := by decide +kernel
theorem dX9_average_38 : decode cX9_average 38 = .ok (.aload_n 0, 1) := by decide +kernel
theorem dX9_average_39 : decode cX9_average 39 = .ok (.getfield 435, 3) := by decide +kernel
theorem dX9_average_42 : decode cX9_average 42 = .ok (.ireturn, 1) := by decide +kernel
theorem dX9_isWorker_0 : decode cX9_isWorker 0 = .ok (.iload_n 1, 1) := by decide +kernel
theorem dX9_isWorker_1 : decode cX9_isWorker 1 = .ok (.iconst 0, 1) := by decide +kernel
theorem dX9_isWorker_2 : decode cX9_isWorker 2 = .ok (.aload_n 0, 1) := by decide +kernel
theorem dX9_isWorker_3 : decode cX9_isWorker 3 = .ok (.getfield 337, 3) := by decide +kernel
theorem dX9_isWorker_6 : decode cX9_isWorker 6 = .ok (.iconst 1, 1) := by decide +kernel
theorem dX9_isWorker_7 : decode cX9_isWorker 7 = .ok (.isub, 1) := by decide +kernel
theorem dX9_isWorker_8 : decode cX9_isWorker 8 = .ok (.invokestatic 333, 3) := by decide +kernel
theorem dX9_isWorker_11 : decode cX9_isWorker 11 = .ok (.ireturn, 1) := by decide +kernel
theorem dX9_isWeek_0 : decode cX9_isWeek 0 = .ok (.iload_n 0, 1) := by decide +kernel
theorem dX9_isWeek_1 : decode cX9_isWeek 1 = .ok (.iconst 0, 1) := by decide +kernel
theorem dX9_isWeek_2 : decode cX9_isWeek 2 = .ok (.bipush 103, 2) := by decide +kernel
theorem dX9_isWeek_4 : decode cX9_isWeek 4 = .ok (.invokestatic 333, 3) := by decide +kernel
theorem dX9_isWeek_7 : decode cX9_isWeek 7 = .ok (.ireturn, 1) := by decide +kernel
theorem dX9_fact_0 : decode cX9_fact 0 = .ok (.aload_n 0, 1) := by decide +kernel
theorem dX9_fact_1 : decode cX9_fact 1 = .ok (.getfield 340, 3) := by decide +kernel
theorem dX9_fact_4 : decode cX9_fact 4 = .ok (.sipush 250, 3) := by decide +kernel
theorem dX9_fact_7 : decode cX9_fact 7 = .ok (.if_icmp .ne 5, 3) := by decide +kernel
theorem dX9_fact_10 : decode cX9_fact 10 = .ok (.iconst (-1), 1) := by decide +kernel
theorem dX9_fact_11 : decode cX9_fact 11 = .ok (.ireturn, 1) := by decide +kernel
theorem dX9_fact_12 : decode cX9_fact 12 = .ok (.aload_n 0, 1) := by decide +kernel
theorem dX9_fact_13 : decode cX9_fact 13 = .ok (.getfield 123, 3) := by decide +kernel
theorem dX9_fact_16 : decode cX9_fact 16 = .ok (.aload_n 0, 1) := by decide +kernel
theorem dX9_fact_17 : decode cX9_fact 17 = .ok (.getfield 340, 3) := by decide +kernel
theorem dX9_fact_20 : decode cX9_fact 20 = .ok (.iload_n 1, 1) := by decide +kernel
theorem dX9_fact_21 : decode cX9_fact 21 = .ok (.iastore, 1) := by decide +kernel
theorem dX9_fact_22 : decode cX9_fact 22 = .ok (.aload_n 0, 1) := by decide +kernel
theorem dX9_fact_23 : decode cX9_fact 23 = .ok (.getfield 126, 3) := by decide +kernel
theorem dX9_fact_26 : decode cX9_fact 26 = .ok (.aload_n 0, 1) := by decide +kernel
theorem dX9_fact_27 : decode cX9_fact 27 = .ok (.getfield 340, 3) := by decide +kernel
theorem dX9_fact_30 : decode cX9_fact 30 = .ok (.iload_n 2, 1) := by decide +kernel
theorem dX9_fact_31 : decode cX9_fact 31 = .ok (.iastore, 1) := by decide +kernel
theorem dX9_fact_32 : decode cX9_fact 32 = .ok (.aload_n 0, 1) := by decide +kernel
theorem dX9_fact_33 : decode cX9_fact 33 = .ok (.getfield 129, 3) := by decide +kernel
theorem dX9_fact_36 : decode cX9_fact 36 = .ok (.aload_n 0, 1) := by decide +kernel
theorem dX9_fact_37 : decode cX9_fact 37 = .ok (.getfield 340, 3) := by decide +kernel
theorem dX9_fact_40 : decode cX9_fact 40 = .ok (.iload_n 3, 1) := by decide +kernel
theorem dX9_fact_41 : decode cX9_fact 41 = .ok (.iastore, 1) := by decide +kernel
theorem dX9_fact_42 : decode cX9_fact 42 = .ok (.aload_n 0, 1) := by decide +kernel
theorem dX9_fact_43 : decode cX9_fact 43 = .ok (.getfield 132, 3) := by decide +kernel
theorem dX9_fact_46 : decode cX9_fact 46 = .ok (.aload_n 0, 1) := by decide +kernel
theorem dX9_fact_47 : decode cX9_fact 47 = .ok (.getfield 340, 3) := by decide +kernel
theorem dX9_fact_50 : decode cX9_fact 50 = .ok (.iload 4, 2) := by decide +kernel
theorem dX9_fact_52 : decode cX9_fact 52 = .ok (.iastore, 1) := by decide +kernel
theorem dX9_fact_53 : decode cX9_fact 53 = .ok (.aload_n 0, 1) := by decide +kernel
theorem dX9_fact_54 : decode cX9_fact 54 = .ok (.getfield 135, 3) := by decide +kernel
theorem dX9_fact_57 : decode cX9_fact 57 = .ok (.aload_n 0, 1) := by decide +kernel
theorem dX9_fact_58 : decode cX9_fact 58 = .ok (.getfield 340, 3) := by decide +kernel
theorem dX9_fact_61 : decode cX9_fact 61 = .ok (.iload 5, 2) := by decide +kernel
theorem dX9_fact_63 : decode cX9_fact 63 = .ok (.iastore, 1) := by decide +kernel
theorem dX9_fact_64 : decode cX9_fact 64 = .ok (.aload_n 0, 1) := by decide +kernel
theorem dX9_fact_65 : decode cX9_fact 65 = .ok (.getfield 138, 3) := by decide +kernel
theorem dX9_fact_68 : decode cX9_fact 68 = .ok (.aload_n 0, 1) := by decide +kernel
theorem dX9_fact_69 : decode cX9_fact 69 = .ok (.getfield 340, 3) := by decide +kernel
theorem dX9_fact_72 : decode cX9_fact 72 = .ok (.aload_n 0, 1) := by decide +kernel
theorem dX9_fact_73 : decode cX9_fact 73 = .ok (.getfield 343, 3) := by decide +kernel
theorem dX9_fact_76 : decode cX9_fact 76 = .ok (.iastore, 1) := by decide +kernel
theorem dX9_fact_77 : decode cX9_fact 77 = .ok (.aload_n 0, 1) := by decide +kernel
theorem dX9_fact_78 : decode cX9_fact 78 = .ok (.getfield 141, 3) := by decide +kernel
theorem dX9_fact_81 : decode cX9_fact 81 = .ok (.aload_n 0, 1) := by decide +kernel
theorem dX9_fact_82 : decode cX9_fact 82 = .ok (.getfield 340, 3) := by decide +kernel
theorem dX9_fact_85 : decode cX9_fact 85 = .ok (.iconst (-1), 1) := by decide +kernel
theorem dX9_fact_86 : decode cX9_fact 86 = .ok (.iastore, 1) := by decide +kernel
theorem dX9_fact_87 : decode cX9_fact 87 = .ok (.aload_n 0, 1) := by decide +kernel
theorem dX9_fact_88 : decode cX9_fact 88 = .ok (.dup, 1) := by decide +kernel
theorem dX9_fact_89 : decode cX9_fact 89 = .ok (.getfield 340, 3) := by decide +kernel
theorem dX9_fact_92 : decode cX9_fact 92 = .ok (.iconst 1, 1) := by decide +kernel
theorem dX9_fact_93 : decode cX9_fact 93 = .ok (.iadd, 1) := by decide +kernel
theorem dX9_fact_94 : decode cX9_fact 94 = .ok (.putfield 340, 3) := by decide +kernel
theorem dX9_fact_97 : decode cX9_fact 97 = .ok (.aload_n 0, 1) := by decide +kernel
theorem dX9_fact_98 : decode cX9_fact 98 = .ok (.getfield 340, 3) := by decide +kernel
theorem dX9_fact_101 : decode cX9_fact 101 = .ok (.iconst 1, 1) := by decide +kernel
theorem dX9_fact_102 : decode cX9_fact 102 = .ok (.isub, 1) := by decide +kernel
theorem dX9_fact_103 : decode cX9_fact 103 = .ok (.ireturn, 1) := by decide +kernel
theorem dX9_bank_0 : decode cX9_bank 0 = .ok (.aload_n 0, 1) := by decide +kernel
theorem dX9_bank_1 : decode cX9_bank 1 = .ok (.iload_n 1, 1) := by decide +kernel
theorem dX9_bank_2 : decode cX9_bank 2 = .ok (.invokevirtual 346, 3) := by decide +kernel
theorem dX9_bank_5 : decode cX9_bank 5 = .ok (.ifCond .eq 55, 3) := by decide +kernel
theorem dX9_bank_8 : decode cX9_bank 8 = .ok (.iload_n 2, 1) := by decide +kernel
theorem dX9_bank_9 : decode cX9_bank 9 = .ok (.invokestatic 349, 3) := by decide +kernel
theorem dX9_bank_12 : decode cX9_bank 12 = .ok (.ifCond .eq 48, 3) := by decide +kernel
theorem dX9_bank_15 : decode cX9_bank 15 = .ok (.iload_n 3, 1) := by decide +kernel
theorem dX9_bank_16 : decode cX9_bank 16 = .ok (.invokestatic 349, 3) := by decide +kernel
theorem dX9_bank_19 : decode cX9_bank 19 = .ok (.ifCond .eq 41, 3) := by decide +kernel
theorem dX9_bank_22 : decode cX9_bank 22 = .ok (.iload_n 3, 1) := by decide +kernel
theorem dX9_bank_23 : decode cX9_bank 23 = .ok (.iload_n 2, 1) := by decide +kernel
theorem dX9_bank_24 : decode cX9_bank 24 = .ok (.if_icmp .lt 36, 3) := by decide +kernel
theorem dX9_bank_27 : decode cX9_bank 27 = .ok (.iload 4, 2) := by decide +kernel
theorem dX9_bank_29 : decode cX9_bank 29 = .ok (.iconst 0, 1) := by decide +kernel
theorem dX9_bank_30 : decode cX9_bank 30 = .ok (.ldc_w 356, 3) := by decide +kernel
theorem dX9_bank_33 : decode cX9_bank 33 = .ok (.invokestatic 333, 3) := by decide +kernel
theorem dX9_bank_36 : decode cX9_bank 36 = .ok (.ifCond .eq 24, 3) := by decide +kernel
theorem dX9_bank_39 : decode cX9_bank 39 = .ok (.aload_n 0, 1) := by decide +kernel
theorem dX9_bank_40 : decode cX9_bank 40 = .ok (.getfield 120, 3) := by decide +kernel
theorem dX9_bank_43 : decode cX9_bank 43 = .ok (.iload_n 1, 1) := by decide +kernel
theorem dX9_bank_44 : decode cX9_bank 44 = .ok (.iaload, 1) := by decide +kernel
theorem dX9_bank_45 : decode cX9_bank 45 = .ok (.bipush 10, 2) := by decide +kernel
theorem dX9_bank_47 : decode cX9_bank 47 = .ok (.if_icmp .eq 13, 3) := by decide +kernel
theorem dX9_bank_50 : decode cX9_bank 50 = .ok (.aload_n 0, 1) := by decide +kernel
theorem dX9_bank_51 : decode cX9_bank 51 = .ok (.getfield 340, 3) := by decide +kernel
theorem dX9_bank_54 : decode cX9_bank 54 = .ok (.sipush 250, 3) := by decide +kernel
theorem dX9_bank_57 : decode cX9_bank 57 = .ok (.if_icmp .ne 5, 3) := by decide +kernel
theorem dX9_bank_60 : decode cX9_bank 60 = .ok (.iconst (-1), 1) := by decide +kernel
theorem dX9_bank_61 : decode cX9_bank 61 = .ok (.ireturn, 1) := by decide +kernel
theorem dX9_bank_62 : decode cX9_bank 62 = .ok (.aload_n 0, 1) := by decide +kernel
theorem dX9_bank_63 : decode cX9_bank 63 = .ok (.getfield 120, 3) := by decide +kernel
theorem dX9_bank_66 : decode cX9_bank 66 = .ok (.iload_n 1, 1) := by decide +kernel
theorem dX9_bank_67 : decode cX9_bank 67 = .ok (.dup2, 1) := by decide +kernel
theorem dX9_bank_68 : decode cX9_bank 68 = .ok (.iaload, 1) := by decide +kernel
theorem dX9_bank_69 : decode cX9_bank 69 = .ok (.iconst 1, 1) := by decide +kernel
theorem dX9_bank_70 : decode cX9_bank 70 = .ok (.iadd, 1) := by decide +kernel
theorem dX9_bank_71 : decode cX9_bank 71 = .ok (.iastore, 1) := by decide +kernel
theorem dX9_bank_72 : decode cX9_bank 72 = .ok (.aload_n 0, 1) := by decide +kernel
theorem dX9_bank_73 : decode cX9_bank 73 = .ok (.iconst 2, 1) := by decide +kernel
theorem dX9_bank_74 : decode cX9_bank 74 = .ok (.iload_n 1, 1) := by decide +kernel
theorem dX9_bank_75 : decode cX9_bank 75 = .ok (.iload_n 2, 1) := by decide +kernel
theorem dX9_bank_76 : decode cX9_bank 76 = .ok (.iload_n 3, 1) := by decide +kernel
theorem dX9_bank_77 : decode cX9_bank 77 = .ok (.iload 4, 2) := by decide +kernel
theorem dX9_bank_79 : decode cX9_bank 79 = .ok (.invokevirtual 352, 3) := by decide +kernel
theorem dX9_bank_82 : decode cX9_bank 82 = .ok (.ireturn, 1) := by decide +kernel
theorem dX9_canBe_0 : decode cX9_canBe 0 = .ok (.iload_n 1, 1) := by decide +kernel
theorem dX9_canBe_1 : decode cX9_canBe 1 = .ok (.invokestatic 397, 3) := by decide +kernel
theorem dX9_canBe_4 : decode cX9_canBe 4 = .ok (.iload_n 2, 1) := by decide +kernel
theorem dX9_canBe_5 : decode cX9_canBe 5 = .ok (.if_icmp .le 5, 3) := by decide +kernel
theorem dX9_canBe_8 : decode cX9_canBe 8 = .ok (.iconst 0, 1) := by decide +kernel
theorem dX9_canBe_9 : decode cX9_canBe 9 = .ok (.ireturn, 1) := by decide +kernel
theorem dX9_canBe_10 : decode cX9_canBe 10 = .ok (.iconst 0, 1) := by decide +kernel
theorem dX9_canBe_11 : decode cX9_canBe 11 = .ok (.istore_n 3, 1) := by decide +kernel
theorem dX9_canBe_12 : decode cX9_canBe 12 = .ok (.iload_n 3, 1) := by decide +kernel
theorem dX9_canBe_13 : decode cX9_canBe 13 = .ok (.aload_n 0, 1) := by decide +kernel
theorem dX9_canBe_14 : decode cX9_canBe 14 = .ok (.getfield 337, 3) := by decide +kernel
theorem dX9_canBe_17 : decode cX9_canBe 17 = .ok (.if_icmp .ge 31, 3) := by decide +kernel
theorem dX9_canBe_20 : decode cX9_canBe 20 = .ok (.iload_n 1, 1) := by decide +kernel
theorem dX9_canBe_21 : decode cX9_canBe 21 = .ok (.iload_n 3, 1) := by decide +kernel
theorem dX9_canBe_22 : decode cX9_canBe 22 = .ok (.ishr, 1) := by decide +kernel
theorem dX9_canBe_23 : decode cX9_canBe 23 = .ok (.iconst 1, 1) := by decide +kernel
theorem dX9_canBe_24 : decode cX9_canBe 24 = .ok (.iand, 1) := by decide +kernel
theorem dX9_canBe_25 : decode cX9_canBe 25 = .ok (.iconst 1, 1) := by decide +kernel
theorem dX9_canBe_26 : decode cX9_canBe 26 = .ok (.if_icmp .ne 16, 3) := by decide +kernel
theorem dX9_canBe_29 : decode cX9_canBe 29 = .ok (.aload_n 0, 1) := by decide +kernel
theorem dX9_canBe_30 : decode cX9_canBe 30 = .ok (.getfield 190, 3) := by decide +kernel
theorem dX9_canBe_33 : decode cX9_canBe 33 = .ok (.iload_n 3, 1) := by decide +kernel
theorem dX9_canBe_34 : decode cX9_canBe 34 = .ok (.laload, 1) := by decide +kernel
theorem dX9_canBe_35 : decode cX9_canBe 35 = .ok (.lconst 0, 1) := by decide +kernel
theorem dX9_canBe_36 : decode cX9_canBe 36 = .ok (.lcmp, 1) := by decide +kernel
theorem dX9_canBe_37 : decode cX9_canBe 37 = .ok (.ifCond .ne 5, 3) := by decide +kernel
theorem dX9_canBe_40 : decode cX9_canBe 40 = .ok (.iconst 0, 1) := by decide +kernel
theorem dX9_canBe_41 : decode cX9_canBe 41 = .ok (.ireturn, 1) := by decide +kernel
theorem dX9_canBe_42 : decode cX9_canBe 42 = .ok (.iinc 3 1, 3) := by decide +kernel
theorem dX9_canBe_45 : decode cX9_canBe 45 = .ok (.goto (-33), 3) := by decide +kernel
theorem dX9_canBe_48 : decode cX9_canBe 48 = .ok (.iconst 1, 1) := by decide +kernel
theorem dX9_canBe_49 : decode cX9_canBe 49 = .ok (.ireturn, 1) := by decide +kernel
theorem dX9_canChain_0 : decode cX9_canChain 0 = .ok (.iload_n 1, 1) := by decide +kernel
theorem dX9_canChain_1 : decode cX9_canChain 1 = .ok (.invokestatic 200, 3) := by decide +kernel
theorem dX9_canChain_4 : decode cX9_canChain 4 = .ok (.ifCond .eq 12, 3) := by decide +kernel
theorem dX9_canChain_7 : decode cX9_canChain 7 = .ok (.aload_n 0, 1) := by decide +kernel
theorem dX9_canChain_8 : decode cX9_canChain 8 = .ok (.iload_n 2, 1) := by decide +kernel
theorem dX9_canChain_9 : decode cX9_canChain 9 = .ok (.iconst 5, 1) := by decide +kernel
theorem dX9_canChain_10 : decode cX9_canChain 10 = .ok (.invokevirtual 445, 3) := by decide +kernel
theorem dX9_canChain_13 : decode cX9_canChain 13 = .ok (.ifCond .ne 5, 3) := by decide +kernel
theorem dX9_canChain_16 : decode cX9_canChain 16 = .ok (.iconst 0, 1) := by decide +kernel
theorem dX9_canChain_17 : decode cX9_canChain 17 = .ok (.ireturn, 1) := by decide +kernel
theorem dX9_canChain_18 : decode cX9_canChain 18 = .ok (.aload_n 0, 1) := by decide +kernel
theorem dX9_canChain_19 : decode cX9_canChain 19 = .ok (.iload_n 1, 1) := by decide +kernel
theorem dX9_canChain_20 : decode cX9_canChain 20 = .ok (.aload_n 0, 1) := by decide +kernel
theorem dX9_canChain_21 : decode cX9_canChain 21 = .ok (.getfield 126, 3) := by decide +kernel
theorem dX9_canChain_24 : decode cX9_canChain 24 = .ok (.iload_n 2, 1) := by decide +kernel
theorem dX9_canChain_25 : decode cX9_canChain 25 = .ok (.iaload, 1) := by decide +kernel
theorem dX9_canChain_26 : decode cX9_canChain 26 = .ok (.iload_n 3, 1) := by decide +kernel
theorem dX9_canChain_27 : decode cX9_canChain 27 = .ok (.iload 4, 2) := by decide +kernel
theorem dX9_canChain_29 : decode cX9_canChain 29 = .ok (.invokevirtual 460, 3) := by decide +kernel
theorem dX9_canChain_32 : decode cX9_canChain 32 = .ok (.aload_n 0, 1) := by decide +kernel
theorem dX9_canChain_33 : decode cX9_canChain 33 = .ok (.iload_n 1, 1) := by decide +kernel
theorem dX9_canChain_34 : decode cX9_canChain 34 = .ok (.iload_n 2, 1) := by decide +kernel
theorem dX9_canChain_35 : decode cX9_canChain 35 = .ok (.invokevirtual 463, 3) := by decide +kernel
theorem dX9_canChain_38 : decode cX9_canChain 38 = .ok (.iconst 1, 1) := by decide +kernel
theorem dX9_canChain_39 : decode cX9_canChain 39 = .ok (.ireturn, 1) := by decide +kernel
theorem dX9_chain_0 : decode cX9_chain 0 = .ok (.aload_n 0, 1) := by decide +kernel
theorem dX9_chain_1 : decode cX9_chain 1 = .ok (.iload_n 1, 1) := by decide +kernel
theorem dX9_chain_2 : decode cX9_chain 2 = .ok (.iload_n 2, 1) := by decide +kernel
theorem dX9_chain_3 : decode cX9_chain 3 = .ok (.iload_n 3, 1) := by decide +kernel
theorem dX9_chain_4 : decode cX9_chain 4 = .ok (.iload 4, 2) := by decide +kernel
theorem dX9_chain_6 : decode cX9_chain 6 = .ok (.invokevirtual 466, 3) := by decide +kernel
theorem dX9_chain_9 : decode cX9_chain 9 = .ok (.ifCond .eq 10, 3) := by decide +kernel
theorem dX9_chain_12 : decode cX9_chain 12 = .ok (.aload_n 0, 1) := by decide +kernel
theorem dX9_chain_13 : decode cX9_chain 13 = .ok (.getfield 457, 3) := by decide +kernel
theorem dX9_chain_16 : decode cX9_chain 16 = .ok (.goto 4, 3) := by decide +kernel
theorem dX9_chain_19 : decode cX9_chain 19 = .ok (.iconst (-1), 1) := by decide +kernel
theorem dX9_chain_20 : decode cX9_chain 20 = .ok (.ireturn, 1) := by decide +kernel
theorem dX9_claim_0 : decode cX9_claim 0 = .ok (.aload_n 0, 1) := by decide +kernel
theorem dX9_claim_1 : decode cX9_claim 1 = .ok (.iload_n 1, 1) := by decide +kernel
theorem dX9_claim_2 : decode cX9_claim 2 = .ok (.invokevirtual 346, 3) := by decide +kernel
theorem dX9_claim_5 : decode cX9_claim 5 = .ok (.ifCond .eq 26, 3) := by decide +kernel
theorem dX9_claim_8 : decode cX9_claim 8 = .ok (.iload_n 2, 1) := by decide +kernel
theorem dX9_claim_9 : decode cX9_claim 9 = .ok (.iconst 0, 1) := by decide +kernel
theorem dX9_claim_10 : decode cX9_claim 10 = .ok (.sipush 999, 3) := by decide +kernel
theorem dX9_claim_13 : decode cX9_claim 13 = .ok (.invokestatic 333, 3) := by decide +kernel
theorem dX9_claim_16 : decode cX9_claim 16 = .ok (.ifCond .eq 15, 3) := by decide +kernel
theorem dX9_claim_19 : decode cX9_claim 19 = .ok (.aload_n 0, 1) := by decide +kernel
theorem dX9_claim_20 : decode cX9_claim 20 = .ok (.iconst 5, 1) := by decide +kernel
theorem dX9_claim_21 : decode cX9_claim 21 = .ok (.iload_n 1, 1) := by decide +kernel
theorem dX9_claim_22 : decode cX9_claim 22 = .ok (.iload_n 2, 1) := by decide +kernel
theorem dX9_claim_23 : decode cX9_claim 23 = .ok (.iconst 0, 1) := by decide +kernel
theorem dX9_claim_24 : decode cX9_claim 24 = .ok (.iconst 0, 1) := by decide +kernel
theorem dX9_claim_25 : decode cX9_claim 25 = .ok (.invokevirtual 352, 3) := by decide +kernel
theorem dX9_claim_28 : decode cX9_claim 28 = .ok (.goto 4, 3) := by decide +kernel
theorem dX9_claim_31 : decode cX9_claim 31 = .ok (.iconst (-1), 1) := by decide +kernel
theorem dX9_claim_32 : decode cX9_claim 32 = .ok (.ireturn, 1) := by decide +kernel
theorem dX9_counted_0 : decode cX9_counted 0 = .ok (.iload_n 1, 1) := by decide +kernel
theorem dX9_counted_1 : decode cX9_counted 1 = .ok (.invokestatic 200, 3) := by decide +kernel
theorem dX9_counted_4 : decode cX9_counted 4 = .ok (.ifCond .eq 18, 3) := by decide +kernel
theorem dX9_counted_7 : decode cX9_counted 7 = .ok (.aload_n 0, 1) := by decide +kernel
theorem dX9_counted_8 : decode cX9_counted 8 = .ok (.iload_n 2, 1) := by decide +kernel
theorem dX9_counted_9 : decode cX9_counted 9 = .ok (.invokevirtual 346, 3) := by decide +kernel
theorem dX9_counted_12 : decode cX9_counted 12 = .ok (.ifCond .eq 10, 3) := by decide +kernel
theorem dX9_counted_15 : decode cX9_counted 15 = .ok (.iload_n 3, 1) := by decide +kernel
theorem dX9_counted_16 : decode cX9_counted 16 = .ok (.invokestatic 349, 3) := by decide +kernel
theorem dX9_counted_19 : decode cX9_counted 19 = .ok (.ifCond .ne 5, 3) := by decide +kernel
theorem dX9_counted_22 : decode cX9_counted 22 = .ok (.iconst (-1), 1) := by decide +kernel
theorem dX9_counted_23 : decode cX9_counted 23 = .ok (.ireturn, 1) := by decide +kernel
theorem dX9_counted_24 : decode cX9_counted 24 = .ok (.aload_n 0, 1) := by decide +kernel
theorem dX9_counted_25 : decode cX9_counted 25 = .ok (.iload_n 1, 1) := by decide +kernel
theorem dX9_counted_26 : decode cX9_counted 26 = .ok (.iload_n 2, 1) := by decide +kernel
theorem dX9_counted_27 : decode cX9_counted 27 = .ok (.iload 4, 2) := by decide +kernel
theorem dX9_counted_29 : decode cX9_counted 29 = .ok (.iload 5, 2) := by decide +kernel
theorem dX9_counted_31 : decode cX9_counted 31 = .ok (.invokevirtual 425, 3) := by decide +kernel
theorem dX9_counted_34 : decode cX9_counted 34 = .ok (.aload_n 0, 1) := by decide +kernel
theorem dX9_counted_35 : decode cX9_counted 35 = .ok (.getfield 166, 3) := by decide +kernel
theorem dX9_counted_38 : decode cX9_counted 38 = .ok (.iload_n 3, 1) := by decide +kernel
theorem dX9_counted_39 : decode cX9_counted 39 = .ok (.iaload, 1) := by decide +kernel
theorem dX9_counted_40 : decode cX9_counted 40 = .ok (.ireturn, 1) := by decide +kernel
theorem dX9_due_0 : decode cX9_due 0 = .ok (.aload_n 0, 1) := by decide +kernel
theorem dX9_due_1 : decode cX9_due 1 = .ok (.iload_n 1, 1) := by decide +kernel
theorem dX9_due_2 : decode cX9_due 2 = .ok (.iload_n 2, 1) := by decide +kernel
theorem dX9_due_3 : decode cX9_due 3 = .ok (.iload_n 3, 1) := by decide +kernel
theorem dX9_due_4 : decode cX9_due 4 = .ok (.iload 4, 2) := by decide +kernel
theorem dX9_due_6 : decode cX9_due 6 = .ok (.invokevirtual 466, 3) := by decide +kernel
theorem dX9_due_9 : decode cX9_due 9 = .ok (.ifCond .ne 7, 3) := by decide +kernel
theorem dX9_due_12 : decode cX9_due 12 = .ok (.ldc2_w 472, 3) := by decide +kernel
theorem dX9_due_15 : decode cX9_due 15 = .ok (.lreturn, 1) := by decide +kernel
theorem dX9_due_16 : decode cX9_due 16 = .ok (.lconst 0, 1) := by decide +kernel
theorem dX9_due_17 : decode cX9_due 17 = .ok (.lstore 5, 2) := by decide +kernel
theorem dX9_due_19 : decode cX9_due 19 = .ok (.iconst 0, 1) := by decide +kernel
theorem dX9_due_20 : decode cX9_due 20 = .ok (.istore 7, 2) := by decide +kernel
theorem dX9_due_22 : decode cX9_due 22 = .ok (.iload 7, 2) := by decide +kernel
theorem dX9_due_24 : decode cX9_due 24 = .ok (.aload_n 0, 1) := by decide +kernel
theorem dX9_due_25 : decode cX9_due 25 = .ok (.getfield 457, 3) := by decide +kernel
theorem dX9_due_28 : decode cX9_due 28 = .ok (.if_icmp .ge 32, 3) := by decide +kernel
theorem dX9_due_31 : decode cX9_due 31 = .ok (.lload 5, 2) := by decide +kernel
theorem dX9_due_33 : decode cX9_due 33 = .ok (.aload_n 0, 1) := by decide +kernel
theorem dX9_due_34 : decode cX9_due 34 = .ok (.iload_n 1, 1) := by decide +kernel
theorem dX9_due_35 : decode cX9_due 35 = .ok (.aload_n 0, 1) := by decide +kernel
theorem dX9_due_36 : decode cX9_due 36 = .ok (.getfield 184, 3) := by decide +kernel
theorem dX9_due_39 : decode cX9_due 39 = .ok (.iload 7, 2) := by decide +kernel
theorem dX9_due_41 : decode cX9_due 41 = .ok (.iaload, 1) := by decide +kernel
theorem dX9_due_42 : decode cX9_due 42 = .ok (.aload_n 0, 1) := by decide +kernel
theorem dX9_due_43 : decode cX9_due 43 = .ok (.getfield 129, 3) := by decide +kernel
theorem dX9_due_46 : decode cX9_due 46 = .ok (.iload_n 2, 1) := by decide +kernel
theorem dX9_due_47 : decode cX9_due 47 = .ok (.iaload, 1) := by decide +kernel
theorem dX9_due_48 : decode cX9_due 48 = .ok (.invokevirtual 474, 3) := by decide +kernel
theorem dX9_due_51 : decode cX9_due 51 = .ok (.ladd, 1) := by decide +kernel
theorem dX9_due_52 : decode cX9_due 52 = .ok (.lstore 5, 2) := by decide +kernel
theorem dX9_due_54 : decode cX9_due 54 = .ok (.iinc 7 1, 3) := by decide +kernel
theorem dX9_due_57 : decode cX9_due 57 = .ok (.goto (-35), 3) := by decide +kernel
theorem dX9_due_60 : decode cX9_due 60 = .ok (.lload 5, 2) := by decide +kernel
theorem dX9_due_62 : decode cX9_due 62 = .ok (.lreturn, 1) := by decide +kernel
theorem dX9_empty_0 : decode cX9_empty 0 = .ok (.iload_n 1, 1) := by decide +kernel
theorem dX9_empty_1 : decode cX9_empty 1 = .ok (.invokestatic 200, 3) := by decide +kernel
theorem dX9_empty_4 : decode cX9_empty 4 = .ok (.ifCond .eq 18, 3) := by decide +kernel
theorem dX9_empty_7 : decode cX9_empty 7 = .ok (.aload_n 0, 1) := by decide +kernel
theorem dX9_empty_8 : decode cX9_empty 8 = .ok (.iload_n 2, 1) := by decide +kernel
theorem dX9_empty_9 : decode cX9_empty 9 = .ok (.invokevirtual 346, 3) := by decide +kernel
theorem dX9_empty_12 : decode cX9_empty 12 = .ok (.ifCond .eq 10, 3) := by decide +kernel
theorem dX9_empty_15 : decode cX9_empty 15 = .ok (.iload_n 3, 1) := by decide +kernel
theorem dX9_empty_16 : decode cX9_empty 16 = .ok (.invokestatic 349, 3) := by decide +kernel
theorem dX9_empty_19 : decode cX9_empty 19 = .ok (.ifCond .ne 5, 3) := by decide +kernel
theorem dX9_empty_22 : decode cX9_empty 22 = .ok (.iconst (-1), 1) := by decide +kernel
theorem dX9_empty_23 : decode cX9_empty 23 = .ok (.ireturn, 1) := by decide +kernel
theorem dX9_empty_24 : decode cX9_empty 24 = .ok (.aload_n 0, 1) := by decide +kernel
theorem dX9_empty_25 : decode cX9_empty 25 = .ok (.iload_n 1, 1) := by decide +kernel
theorem dX9_empty_26 : decode cX9_empty 26 = .ok (.iload_n 2, 1) := by decide +kernel
theorem dX9_empty_27 : decode cX9_empty 27 = .ok (.iload 4, 2) := by decide +kernel
theorem dX9_empty_29 : decode cX9_empty 29 = .ok (.iload 5, 2) := by decide +kernel
theorem dX9_empty_31 : decode cX9_empty 31 = .ok (.invokevirtual 425, 3) := by decide +kernel
theorem dX9_empty_34 : decode cX9_empty 34 = .ok (.aload_n 0, 1) := by decide +kernel
theorem dX9_empty_35 : decode cX9_empty 35 = .ok (.getfield 172, 3) := by decide +kernel
theorem dX9_empty_38 : decode cX9_empty 38 = .ok (.iload_n 3, 1) := by decide +kernel
theorem dX9_empty_39 : decode cX9_empty 39 = .ok (.baload, 1) := by decide +kernel
theorem dX9_empty_40 : decode cX9_empty 40 = .ok (.ifCond .eq 7, 3) := by decide +kernel
theorem dX9_empty_43 : decode cX9_empty 43 = .ok (.iconst 1, 1) := by decide +kernel
theorem dX9_empty_44 : decode cX9_empty 44 = .ok (.goto 4, 3) := by decide +kernel
theorem dX9_empty_47 : decode cX9_empty 47 = .ok (.iconst 0, 1) := by decide +kernel
theorem dX9_empty_48 : decode cX9_empty 48 = .ok (.ireturn, 1) := by decide +kernel
theorem dX9_end_0 : decode cX9_end 0 = .ok (.iload_n 1, 1) := by decide +kernel
theorem dX9_end_1 : decode cX9_end 1 = .ok (.ifCond .lt 11, 3) := by decide +kernel
theorem dX9_end_4 : decode cX9_end 4 = .ok (.iload_n 1, 1) := by decide +kernel
theorem dX9_end_5 : decode cX9_end 5 = .ok (.aload_n 0, 1) := by decide +kernel
theorem dX9_end_6 : decode cX9_end 6 = .ok (.getfield 203, 3) := by decide +kernel
theorem dX9_end_9 : decode cX9_end 9 = .ok (.if_icmp .le 5, 3) := by decide +kernel
theorem dX9_end_12 : decode cX9_end 12 = .ok (.iconst (-1), 1) := by decide +kernel
theorem dX9_end_13 : decode cX9_end 13 = .ok (.ireturn, 1) := by decide +kernel
theorem dX9_end_14 : decode cX9_end 14 = .ok (.aload_n 0, 1) := by decide +kernel
theorem dX9_end_15 : decode cX9_end 15 = .ok (.iload_n 1, 1) := by decide +kernel
theorem dX9_end_16 : decode cX9_end 16 = .ok (.putfield 203, 3) := by decide +kernel
theorem dX9_end_19 : decode cX9_end 19 = .ok (.iload_n 1, 1) := by decide +kernel
theorem dX9_end_20 : decode cX9_end 20 = .ok (.ireturn, 1) := by decide +kernel
theorem dX9_fault_0 : decode cX9_fault 0 = .ok (.iload_n 1, 1) := by decide +kernel
theorem dX9_fault_1 : decode cX9_fault 1 = .ok (.ifCond .ne 10, 3) := by decide +kernel
theorem dX9_fault_4 : decode cX9_fault 4 = .ok (.aload_n 0, 1) := by decide +kernel
theorem dX9_fault_5 : decode cX9_fault 5 = .ok (.getfield 11, 3) := by decide +kernel
theorem dX9_fault_8 : decode cX9_fault 8 = .ok (.goto 16, 3) := by decide +kernel
theorem dX9_fault_11 : decode cX9_fault 11 = .ok (.iload_n 1, 1) := by decide +kernel
theorem dX9_fault_12 : decode cX9_fault 12 = .ok (.iconst 1, 1) := by decide +kernel
theorem dX9_fault_13 : decode cX9_fault 13 = .ok (.if_icmp .ne 10, 3) := by decide +kernel
theorem dX9_fault_16 : decode cX9_fault 16 = .ok (.aload_n 0, 1) := by decide +kernel
theorem dX9_fault_17 : decode cX9_fault 17 = .ok (.getfield 14, 3) := by decide +kernel
theorem dX9_fault_20 : decode cX9_fault 20 = .ok (.goto 4, 3) := by decide +kernel
theorem dX9_fault_23 : decode cX9_fault 23 = .ok (.iconst (-1), 1) := by decide +kernel
theorem dX9_fault_24 : decode cX9_fault 24 = .ok (.ireturn, 1) := by decide +kernel
theorem dX9_feed_0 : decode cX9_feed 0 = .ok (.aload_n 0, 1) := by decide +kernel
theorem dX9_feed_1 : decode cX9_feed 1 = .ok (.getfield 203, 3) := by decide +kernel
theorem dX9_feed_4 : decode cX9_feed 4 = .ok (.bipush 20, 2) := by decide +kernel
theorem dX9_feed_6 : decode cX9_feed 6 = .ok (.iadd, 1) := by decide +kernel
theorem dX9_feed_7 : decode cX9_feed 7 = .ok (.sipush 900, 3) := by decide +kernel
theorem dX9_feed_10 : decode cX9_feed 10 = .ok (.if_icmp .le 5, 3) := by decide +kernel
theorem dX9_feed_13 : decode cX9_feed 13 = .ok (.iconst (-1), 1) := by decide +kernel
theorem dX9_feed_14 : decode cX9_feed 14 = .ok (.ireturn, 1) := by decide +kernel
theorem dX9_feed_15 : decode cX9_feed 15 = .ok (.iconst 0, 1) := by decide +kernel
theorem dX9_feed_16 : decode cX9_feed 16 = .ok (.istore 6, 2) := by decide +kernel
theorem dX9_feed_18 : decode cX9_feed 18 = .ok (.iload 6, 2) := by decide +kernel
theorem dX9_feed_20 : decode cX9_feed 20 = .ok (.bipush 20, 2) := by decide +kernel
theorem dX9_feed_22 : decode cX9_feed 22 = .ok (.if_icmp .ge 83, 3) := by decide +kernel
theorem dX9_feed_25 : decode cX9_feed 25 = .ok (.iload 6, 2) := by decide +kernel
theorem dX9_feed_27 : decode cX9_feed 27 = .ok (.iconst 4, 1) := by decide +kernel
theorem dX9_feed_28 : decode cX9_feed 28 = .ok (.if_icmp .ge 7, 3) := by decide +kernel
theorem dX9_feed_31 : decode cX9_feed 31 = .ok (.iload_n 1, 1) := by decide +kernel
theorem dX9_feed_32 : decode cX9_feed 32 = .ok (.goto 39, 3) := by decide +kernel
theorem dX9_feed_35 : decode cX9_feed 35 = .ok (.iload 6, 2) := by decide +kernel
theorem dX9_feed_37 : decode cX9_feed 37 = .ok (.bipush 8, 2) := by decide +kernel
theorem dX9_feed_39 : decode cX9_feed 39 = .ok (.if_icmp .ge 7, 3) := by decide +kernel
theorem dX9_feed_42 : decode cX9_feed 42 = .ok (.iload_n 2, 1) := by decide +kernel
theorem dX9_feed_43 : decode cX9_feed 43 = .ok (.goto 28, 3) := by decide +kernel
theorem dX9_feed_46 : decode cX9_feed 46 = .ok (.iload 6, 2) := by decide +kernel
theorem dX9_feed_48 : decode cX9_feed 48 = .ok (.bipush 12, 2) := by decide +kernel
theorem dX9_feed_50 : decode cX9_feed 50 = .ok (.if_icmp .ge 7, 3) := by decide +kernel
theorem dX9_feed_53 : decode cX9_feed 53 = .ok (.iload_n 3, 1) := by decide +kernel
theorem dX9_feed_54 : decode cX9_feed 54 = .ok (.goto 17, 3) := by decide +kernel
theorem dX9_feed_57 : decode cX9_feed 57 = .ok (.iload 6, 2) := by decide +kernel
theorem dX9_feed_59 : decode cX9_feed 59 = .ok (.bipush 16, 2) := by decide +kernel
theorem dX9_feed_61 : decode cX9_feed 61 = .ok (.if_icmp .ge 8, 3) := by decide +kernel
theorem dX9_feed_64 : decode cX9_feed 64 = .ok (.iload 4, 2) := by decide +kernel
theorem dX9_feed_66 : decode cX9_feed 66 = .ok (.goto 5, 3) := by decide +kernel
theorem dX9_feed_69 : decode cX9_feed 69 = .ok (.iload 5, 2) := by decide +kernel
theorem dX9_feed_71 : decode cX9_feed 71 = .ok (.istore 7, 2) := by decide +kernel
theorem dX9_feed_73 : decode cX9_feed 73 = .ok (.aload_n 0, 1) := by decide +kernel
theorem dX9_feed_74 : decode cX9_feed 74 = .ok (.getfield 87, 3) := by decide +kernel
theorem dX9_feed_77 : decode cX9_feed 77 = .ok (.aload_n 0, 1) := by decide +kernel
theorem dX9_feed_78 : decode cX9_feed 78 = .ok (.getfield 203, 3) := by decide +kernel
theorem dX9_feed_81 : decode cX9_feed 81 = .ok (.iload 6, 2) := by decide +kernel
theorem dX9_feed_83 : decode cX9_feed 83 = .ok (.iadd, 1) := by decide +kernel
theorem dX9_feed_84 : decode cX9_feed 84 = .ok (.iload 7, 2) := by decide +kernel
theorem dX9_feed_86 : decode cX9_feed 86 = .ok (.bipush 24, 2) := by decide +kernel
theorem dX9_feed_88 : decode cX9_feed 88 = .ok (.bipush 8, 2) := by decide +kernel
theorem dX9_feed_90 : decode cX9_feed 90 = .ok (.iload 6, 2) := by decide +kernel
theorem dX9_feed_92 : decode cX9_feed 92 = .ok (.iconst 3, 1) := by decide +kernel
theorem dX9_feed_93 : decode cX9_feed 93 = .ok (.iand, 1) := by decide +kernel
theorem dX9_feed_94 : decode cX9_feed 94 = .ok (.imul, 1) := by decide +kernel
theorem dX9_feed_95 : decode cX9_feed 95 = .ok (.isub, 1) := by decide +kernel
theorem dX9_feed_96 : decode cX9_feed 96 = .ok (.ishr, 1) := by decide +kernel
theorem dX9_feed_97 : decode cX9_feed 97 = .ok (.i2b, 1) := by decide +kernel
theorem dX9_feed_98 : decode cX9_feed 98 = .ok (.bastore, 1) := by decide +kernel
theorem dX9_feed_99 : decode cX9_feed 99 = .ok (.iinc 6 1, 3) := by decide +kernel
theorem dX9_feed_102 : decode cX9_feed 102 = .ok (.goto (-84), 3) := by decide +kernel
theorem dX9_feed_105 : decode cX9_feed 105 = .ok (.aload_n 0, 1) := by decide +kernel
theorem dX9_feed_106 : decode cX9_feed 106 = .ok (.dup, 1) := by decide +kernel
theorem dX9_feed_107 : decode cX9_feed 107 = .ok (.getfield 203, 3) := by decide +kernel
theorem dX9_feed_110 : decode cX9_feed 110 = .ok (.bipush 20, 2) := by decide +kernel
theorem dX9_feed_112 : decode cX9_feed 112 = .ok (.iadd, 1) := by decide +kernel
theorem dX9_feed_113 : decode cX9_feed 113 = .ok (.putfield 203, 3) := by decide +kernel
theorem dX9_feed_116 : decode cX9_feed 116 = .ok (.aload_n 0, 1) := by decide +kernel
theorem dX9_feed_117 : decode cX9_feed 117 = .ok (.getfield 203, 3) := by decide +kernel
theorem dX9_feed_120 : decode cX9_feed 120 = .ok (.ireturn, 1) := by decide +kernel
theorem dX9_holiday_0 : decode cX9_holiday 0 = .ok (.aload_n 0, 1) := by decide +kernel
theorem dX9_holiday_1 : decode cX9_holiday 1 = .ok (.iload_n 1, 1) := by decide +kernel
theorem dX9_holiday_2 : decode cX9_holiday 2 = .ok (.invokevirtual 346, 3) := by decide +kernel
theorem dX9_holiday_5 : decode cX9_holiday 5 = .ok (.ifCond .eq 49, 3) := by decide +kernel
theorem dX9_holiday_8 : decode cX9_holiday 8 = .ok (.iload_n 2, 1) := by decide +kernel
theorem dX9_holiday_9 : decode cX9_holiday 9 = .ok (.iconst 0, 1) := by decide +kernel
theorem dX9_holiday_10 : decode cX9_holiday 10 = .ok (.sipush 727, 3) := by decide +kernel
theorem dX9_holiday_13 : decode cX9_holiday 13 = .ok (.invokestatic 333, 3) := by decide +kernel
theorem dX9_holiday_16 : decode cX9_holiday 16 = .ok (.ifCond .eq 38, 3) := by decide +kernel
theorem dX9_holiday_19 : decode cX9_holiday 19 = .ok (.iload_n 3, 1) := by decide +kernel
theorem dX9_holiday_20 : decode cX9_holiday 20 = .ok (.iconst 1, 1) := by decide +kernel
theorem dX9_holiday_21 : decode cX9_holiday 21 = .ok (.bipush 20, 2) := by decide +kernel
theorem dX9_holiday_23 : decode cX9_holiday 23 = .ok (.invokestatic 333, 3) := by decide +kernel
theorem dX9_holiday_26 : decode cX9_holiday 26 = .ok (.ifCond .eq 28, 3) := by decide +kernel
theorem dX9_holiday_29 : decode cX9_holiday 29 = .ok (.iload 4, 2) := by decide +kernel
theorem dX9_holiday_31 : decode cX9_holiday 31 = .ok (.iconst 0, 1) := by decide +kernel
theorem dX9_holiday_32 : decode cX9_holiday 32 = .ok (.ldc_w 357, 3) := by decide +kernel
theorem dX9_holiday_35 : decode cX9_holiday 35 = .ok (.invokestatic 333, 3) := by decide +kernel
theorem dX9_holiday_38 : decode cX9_holiday 38 = .ok (.ifCond .eq 16, 3) := by decide +kernel
theorem dX9_holiday_41 : decode cX9_holiday 41 = .ok (.aload_n 0, 1) := by decide +kernel
theorem dX9_holiday_42 : decode cX9_holiday 42 = .ok (.iconst 3, 1) := by decide +kernel
theorem dX9_holiday_43 : decode cX9_holiday 43 = .ok (.iload_n 1, 1) := by decide +kernel
theorem dX9_holiday_44 : decode cX9_holiday 44 = .ok (.iload_n 2, 1) := by decide +kernel
theorem dX9_holiday_45 : decode cX9_holiday 45 = .ok (.iload_n 3, 1) := by decide +kernel
theorem dX9_holiday_46 : decode cX9_holiday 46 = .ok (.iload 4, 2) := by decide +kernel
theorem dX9_holiday_48 : decode cX9_holiday 48 = .ok (.invokevirtual 352, 3) := by decide +kernel
theorem dX9_holiday_51 : decode cX9_holiday 51 = .ok (.goto 4, 3) := by decide +kernel
theorem dX9_holiday_54 : decode cX9_holiday 54 = .ok (.iconst (-1), 1) := by decide +kernel
theorem dX9_holiday_55 : decode cX9_holiday 55 = .ok (.ireturn, 1) := by decide +kernel
theorem dX9_init_0 : decode cX9_init 0 = .ok (.aload_n 0, 1) := by decide +kernel
theorem dX9_init_1 : decode cX9_init 1 = .ok (.invokespecial 82, 3) := by decide +kernel
theorem dX9_init_4 : decode cX9_init 4 = .ok (.aload_n 0, 1) := by decide +kernel
theorem dX9_init_5 : decode cX9_init 5 = .ok (.sipush 920, 3) := by decide +kernel
theorem dX9_init_8 : decode cX9_init 8 = .ok (.newarray .byte, 2) := by decide +kernel
theorem dX9_init_10 : decode cX9_init 10 = .ok (.putfield 87, 3) := by decide +kernel
theorem dX9_init_13 : decode cX9_init 13 = .ok (.aload_n 0, 1) := by decide +kernel
theorem dX9_init_14 : decode cX9_init 14 = .ok (.sipush 900, 3) := by decide +kernel
theorem dX9_init_17 : decode cX9_init 17 = .ok (.newarray .byte, 2) := by decide +kernel
theorem dX9_init_19 : decode cX9_init 19 = .ok (.putfield 7, 3) := by decide +kernel
theorem dX9_init_22 : decode cX9_init 22 = .ok (.aload_n 0, 1) := by decide +kernel
theorem dX9_init_23 : decode cX9_init 23 = .ok (.iconst (-1), 1) := by decide +kernel
theorem dX9_init_24 : decode cX9_init 24 = .ok (.putfield 14, 3) := by decide +kernel
theorem dX9_init_27 : decode cX9_init 27 = .ok (.aload_n 0, 1) := by decide +kernel
theorem dX9_init_28 : decode cX9_init 28 = .ok (.bipush 35, 2) := by decide +kernel
theorem dX9_init_30 : decode cX9_init 30 = .ok (.newarray .int, 2) := by decide +kernel
theorem dX9_init_32 : decode cX9_init 32 = .ok (.putfield 62, 3) := by decide +kernel
theorem dX9_init_35 : decode cX9_init 35 = .ok (.aload_n 0, 1) := by decide +kernel
theorem dX9_init_36 : decode cX9_init 36 = .ok (.iconst 5, 1) := by decide +kernel
theorem dX9_init_37 : decode cX9_init 37 = .ok (.newarray .int, 2) := by decide +kernel
theorem dX9_init_39 : decode cX9_init 39 = .ok (.putfield 73, 3) := by decide +kernel
theorem dX9_init_42 : decode cX9_init 42 = .ok (.aload_n 0, 1) := by decide +kernel
theorem dX9_init_43 : decode cX9_init 43 = .ok (.iconst 5, 1) := by decide +kernel
theorem dX9_init_44 : decode cX9_init 44 = .ok (.newarray .int, 2) := by decide +kernel
theorem dX9_init_46 : decode cX9_init 46 = .ok (.putfield 76, 3) := by decide +kernel
theorem dX9_init_49 : decode cX9_init 49 = .ok (.aload_n 0, 1) := by decide +kernel
theorem dX9_init_50 : decode cX9_init 50 = .ok (.bipush 55, 2) := by decide +kernel
theorem dX9_init_52 : decode cX9_init 52 = .ok (.newarray .int, 2) := by decide +kernel
theorem dX9_init_54 : decode cX9_init 54 = .ok (.putfield 90, 3) := by decide +kernel
theorem dX9_init_57 : decode cX9_init 57 = .ok (.aload_n 0, 1) := by decide +kernel
theorem dX9_init_58 : decode cX9_init 58 = .ok (.bipush 55, 2) := by decide +kernel
theorem dX9_init_60 : decode cX9_init 60 = .ok (.newarray .int, 2) := by decide +kernel
theorem dX9_init_62 : decode cX9_init 62 = .ok (.putfield 93, 3) := by decide +kernel
theorem dX9_init_65 : decode cX9_init 65 = .ok (.aload_n 0, 1) := by decide +kernel
theorem dX9_init_66 : decode cX9_init 66 = .ok (.bipush 55, 2) := by decide +kernel
theorem dX9_init_68 : decode cX9_init 68 = .ok (.newarray .int, 2) := by decide +kernel
theorem dX9_init_70 : decode cX9_init 70 = .ok (.putfield 96, 3) := by decide +kernel
theorem dX9_init_73 : decode cX9_init 73 = .ok (.aload_n 0, 1) := by decide +kernel
theorem dX9_init_74 : decode cX9_init 74 = .ok (.bipush 55, 2) := by decide +kernel
theorem dX9_init_76 : decode cX9_init 76 = .ok (.newarray .int, 2) := by decide +kernel
theorem dX9_init_78 : decode cX9_init 78 = .ok (.putfield 99, 3) := by decide +kernel
theorem dX9_init_81 : decode cX9_init 81 = .ok (.aload_n 0, 1) := by decide +kernel
theorem dX9_init_82 : decode cX9_init 82 = .ok (.sipush 4500, 3) := by decide +kernel
theorem dX9_init_85 : decode cX9_init 85 = .ok (.newarray .int, 2) := by decide +kernel
theorem dX9_init_87 : decode cX9_init 87 = .ok (.putfield 102, 3) := by decide +kernel
theorem dX9_init_90 : decode cX9_init 90 = .ok (.aload_n 0, 1) := by decide +kernel
theorem dX9_init_91 : decode cX9_init 91 = .ok (.sipush 4500, 3) := by decide +kernel
theorem dX9_init_94 : decode cX9_init 94 = .ok (.newarray .int, 2) := by decide +kernel
theorem dX9_init_96 : decode cX9_init 96 = .ok (.putfield 105, 3) := by decide +kernel
theorem dX9_init_99 : decode cX9_init 99 = .ok (.aload_n 0, 1) := by decide +kernel
theorem dX9_init_100 : decode cX9_init 100 = .ok (.bipush 80, 2) := by decide +kernel
theorem dX9_init_102 : decode cX9_init 102 = .ok (.newarray .int, 2) := by decide +kernel
theorem dX9_init_104 : decode cX9_init 104 = .ok (.putfield 108, 3) := by decide +kernel
theorem dX9_init_107 : decode cX9_init 107 = .ok (.aload_n 0, 1) := by decide +kernel
theorem dX9_init_108 : decode cX9_init 108 = .ok (.bipush 80, 2) := by decide +kernel
theorem dX9_init_110 : decode cX9_init 110 = .ok (.newarray .int, 2) := by decide +kernel
theorem dX9_init_112 : decode cX9_init 112 = .ok (.putfield 111, 3) := by decide +kernel
theorem dX9_init_115 : decode cX9_init 115 = .ok (.aload_n 0, 1) := by decide +kernel
theorem dX9_init_116 : decode cX9_init 116 = .ok (.bipush 120, 2) := by decide +kernel
theorem dX9_init_118 : decode cX9_init 118 = .ok (.newarray .int, 2) := by decide +kernel
theorem dX9_init_120 : decode cX9_init 120 = .ok (.putfield 114, 3) := by decide +kernel
theorem dX9_init_123 : decode cX9_init 123 = .ok (.aload_n 0, 1) := by decide +kernel
theorem dX9_init_124 : decode cX9_init 124 = .ok (.bipush 35, 2) := by decide +kernel
theorem dX9_init_126 : decode cX9_init 126 = .ok (.newarray .boolean, 2) := by decide +kernel
theorem dX9_init_128 : decode cX9_init 128 = .ok (.putfield 69, 3) := by decide +kernel
theorem dX9_init_131 : decode cX9_init 131 = .ok (.aload_n 0, 1) := by decide +kernel
theorem dX9_init_132 : decode cX9_init 132 = .ok (.iconst 5, 1) := by decide +kernel
theorem dX9_init_133 : decode cX9_init 133 = .ok (.newarray .boolean, 2) := by decide +kernel
theorem dX9_init_135 : decode cX9_init 135 = .ok (.putfield 79, 3) := by decide +kernel
theorem dX9_init_138 : decode cX9_init 138 = .ok (.aload_n 0, 1) := by decide +kernel
theorem dX9_init_139 : decode cX9_init 139 = .ok (.bipush 10, 2) := by decide +kernel
theorem dX9_init_141 : decode cX9_init 141 = .ok (.newarray .int, 2) := by decide +kernel
theorem dX9_init_143 : decode cX9_init 143 = .ok (.putfield 117, 3) := by decide +kernel
theorem dX9_init_146 : decode cX9_init 146 = .ok (.aload_n 0, 1) := by decide +kernel
theorem dX9_init_147 : decode cX9_init 147 = .ok (.bipush 10, 2) := by decide +kernel
theorem dX9_init_149 : decode cX9_init 149 = .ok (.newarray .int, 2) := by decide +kernel
theorem dX9_init_151 : decode cX9_init 151 = .ok (.putfield 120, 3) := by decide +kernel
theorem dX9_init_154 : decode cX9_init 154 = .ok (.aload_n 0, 1) := by decide +kernel
theorem dX9_init_155 : decode cX9_init 155 = .ok (.sipush 250, 3) := by decide +kernel
theorem dX9_init_158 : decode cX9_init 158 = .ok (.newarray .int, 2) := by decide +kernel
theorem dX9_init_160 : decode cX9_init 160 = .ok (.putfield 123, 3) := by decide +kernel
theorem dX9_init_163 : decode cX9_init 163 = .ok (.aload_n 0, 1) := by decide +kernel
theorem dX9_init_164 : decode cX9_init 164 = .ok (.sipush 250, 3) := by decide +kernel
theorem dX9_init_167 : decode cX9_init 167 = .ok (.newarray .int, 2) := by decide +kernel
theorem dX9_init_169 : decode cX9_init 169 = .ok (.putfield 126, 3) := by decide +kernel
theorem dX9_init_172 : decode cX9_init 172 = .ok (.aload_n 0, 1) := by decide +kernel
theorem dX9_init_173 : decode cX9_init 173 = .ok (.sipush 250, 3) := by decide +kernel
theorem dX9_init_176 : decode cX9_init 176 = .ok (.newarray .int, 2) := by decide +kernel
theorem dX9_init_178 : decode cX9_init 178 = .ok (.putfield 129, 3) := by decide +kernel
theorem dX9_init_181 : decode cX9_init 181 = .ok (.aload_n 0, 1) := by decide +kernel
theorem dX9_init_182 : decode cX9_init 182 = .ok (.sipush 250, 3) := by decide +kernel
theorem dX9_init_185 : decode cX9_init 185 = .ok (.newarray .int, 2) := by decide +kernel
theorem dX9_init_187 : decode cX9_init 187 = .ok (.putfield 132, 3) := by decide +kernel
theorem dX9_init_190 : decode cX9_init 190 = .ok (.aload_n 0, 1) := by decide +kernel
theorem dX9_init_191 : decode cX9_init 191 = .ok (.sipush 250, 3) := by decide +kernel
theorem dX9_init_194 : decode cX9_init 194 = .ok (.newarray .int, 2) := by decide +kernel
theorem dX9_init_196 : decode cX9_init 196 = .ok (.putfield 135, 3) := by decide +kernel
theorem dX9_init_199 : decode cX9_init 199 = .ok (.aload_n 0, 1) := by decide +kernel
theorem dX9_init_200 : decode cX9_init 200 = .ok (.sipush 250, 3) := by decide +kernel
theorem dX9_init_203 : decode cX9_init 203 = .ok (.newarray .int, 2) := by decide +kernel
theorem dX9_init_205 : decode cX9_init 205 = .ok (.putfield 138, 3) := by decide +kernel
theorem dX9_init_208 : decode cX9_init 208 = .ok (.aload_n 0, 1) := by decide +kernel
theorem dX9_init_209 : decode cX9_init 209 = .ok (.sipush 250, 3) := by decide +kernel
theorem dX9_init_212 : decode cX9_init 212 = .ok (.newarray .int, 2) := by decide +kernel
theorem dX9_init_214 : decode cX9_init 214 = .ok (.putfield 141, 3) := by decide +kernel
theorem dX9_init_217 : decode cX9_init 217 = .ok (.aload_n 0, 1) := by decide +kernel
theorem dX9_init_218 : decode cX9_init 218 = .ok (.bipush 10, 2) := by decide +kernel
theorem dX9_init_220 : decode cX9_init 220 = .ok (.newarray .boolean, 2) := by decide +kernel
theorem dX9_init_222 : decode cX9_init 222 = .ok (.putfield 144, 3) := by decide +kernel
theorem dX9_init_225 : decode cX9_init 225 = .ok (.aload_n 0, 1) := by decide +kernel
theorem dX9_init_226 : decode cX9_init 226 = .ok (.sipush 624, 3) := by decide +kernel
theorem dX9_init_229 : decode cX9_init 229 = .ok (.newarray .int, 2) := by decide +kernel
theorem dX9_init_231 : decode cX9_init 231 = .ok (.putfield 147, 3) := by decide +kernel
theorem dX9_init_234 : decode cX9_init 234 = .ok (.aload_n 0, 1) := by decide +kernel
theorem dX9_init_235 : decode cX9_init 235 = .ok (.bipush 104, 2) := by decide +kernel
theorem dX9_init_237 : decode cX9_init 237 = .ok (.newarray .int, 2) := by decide +kernel
theorem dX9_init_239 : decode cX9_init 239 = .ok (.putfield 150, 3) := by decide +kernel
theorem dX9_init_242 : decode cX9_init 242 = .ok (.aload_n 0, 1) := by decide +kernel
theorem dX9_init_243 : decode cX9_init 243 = .ok (.bipush 104, 2) := by decide +kernel
theorem dX9_init_245 : decode cX9_init 245 = .ok (.newarray .int, 2) := by decide +kernel
theorem dX9_init_247 : decode cX9_init 247 = .ok (.putfield 153, 3) := by decide +kernel
theorem dX9_init_250 : decode cX9_init 250 = .ok (.aload_n 0, 1) := by decide +kernel
theorem dX9_init_251 : decode cX9_init 251 = .ok (.bipush 10, 2) := by decide +kernel
theorem dX9_init_253 : decode cX9_init 253 = .ok (.newarray .int, 2) := by decide +kernel
theorem dX9_init_255 : decode cX9_init 255 = .ok (.putfield 156, 3) := by decide +kernel
theorem dX9_init_258 : decode cX9_init 258 = .ok (.aload_n 0, 1) := by decide +kernel
theorem dX9_init_259 : decode cX9_init 259 = .ok (.bipush 104, 2) := by decide +kernel
theorem dX9_init_261 : decode cX9_init 261 = .ok (.newarray .boolean, 2) := by decide +kernel
theorem dX9_init_263 : decode cX9_init 263 = .ok (.putfield 159, 3) := by decide +kernel
theorem dX9_init_266 : decode cX9_init 266 = .ok (.aload_n 0, 1) := by decide +kernel
theorem dX9_init_267 : decode cX9_init 267 = .ok (.bipush 105, 2) := by decide +kernel
theorem dX9_init_269 : decode cX9_init 269 = .ok (.newarray .long, 2) := by decide +kernel
theorem dX9_init_271 : decode cX9_init 271 = .ok (.putfield 162, 3) := by decide +kernel
theorem dX9_init_274 : decode cX9_init 274 = .ok (.aload_n 0, 1) := by decide +kernel
theorem dX9_init_275 : decode cX9_init 275 = .ok (.bipush 104, 2) := by decide +kernel
theorem dX9_init_277 : decode cX9_init 277 = .ok (.newarray .int, 2) := by decide +kernel
theorem dX9_init_279 : decode cX9_init 279 = .ok (.putfield 166, 3) := by decide +kernel
theorem dX9_init_282 : decode cX9_init 282 = .ok (.aload_n 0, 1) := by decide +kernel
theorem dX9_init_283 : decode cX9_init 283 = .ok (.bipush 104, 2) := by decide +kernel
theorem dX9_init_285 : decode cX9_init 285 = .ok (.newarray .int, 2) := by decide +kernel
theorem dX9_init_287 : decode cX9_init 287 = .ok (.putfield 169, 3) := by decide +kernel
theorem dX9_init_290 : decode cX9_init 290 = .ok (.aload_n 0, 1) := by decide +kernel
theorem dX9_init_291 : decode cX9_init 291 = .ok (.bipush 104, 2) := by decide +kernel
theorem dX9_init_293 : decode cX9_init 293 = .ok (.newarray .boolean, 2) := by decide +kernel
theorem dX9_init_295 : decode cX9_init 295 = .ok (.putfield 172, 3) := by decide +kernel
theorem dX9_init_298 : decode cX9_init 298 = .ok (.aload_n 0, 1) := by decide +kernel
theorem dX9_init_299 : decode cX9_init 299 = .ok (.sipush 250, 3) := by decide +kernel
theorem dX9_init_302 : decode cX9_init 302 = .ok (.newarray .int, 2) := by decide +kernel
theorem dX9_init_304 : decode cX9_init 304 = .ok (.putfield 175, 3) := by decide +kernel
theorem dX9_init_307 : decode cX9_init 307 = .ok (.aload_n 0, 1) := by decide +kernel
theorem dX9_init_308 : decode cX9_init 308 = .ok (.sipush 250, 3) := by decide +kernel
theorem dX9_init_311 : decode cX9_init 311 = .ok (.newarray .int, 2) := by decide +kernel
theorem dX9_init_313 : decode cX9_init 313 = .ok (.putfield 178, 3) := by decide +kernel
theorem dX9_init_316 : decode cX9_init 316 = .ok (.aload_n 0, 1) := by decide +kernel
theorem dX9_init_317 : decode cX9_init 317 = .ok (.sipush 250, 3) := by decide +kernel
theorem dX9_init_320 : decode cX9_init 320 = .ok (.newarray .int, 2) := by decide +kernel
theorem dX9_init_322 : decode cX9_init 322 = .ok (.putfield 181, 3) := by decide +kernel
theorem dX9_init_325 : decode cX9_init 325 = .ok (.aload_n 0, 1) := by decide +kernel
theorem dX9_init_326 : decode cX9_init 326 = .ok (.sipush 250, 3) := by decide +kernel
theorem dX9_init_329 : decode cX9_init 329 = .ok (.newarray .int, 2) := by decide +kernel
theorem dX9_init_331 : decode cX9_init 331 = .ok (.putfield 184, 3) := by decide +kernel
theorem dX9_init_334 : decode cX9_init 334 = .ok (.aload_n 0, 1) := by decide +kernel
theorem dX9_init_335 : decode cX9_init 335 = .ok (.sipush 250, 3) := by decide +kernel
theorem dX9_init_338 : decode cX9_init 338 = .ok (.newarray .int, 2) := by decide +kernel
theorem dX9_init_340 : decode cX9_init 340 = .ok (.putfield 187, 3) := by decide +kernel
theorem dX9_init_343 : decode cX9_init 343 = .ok (.aload_n 0, 1) := by decide +kernel
theorem dX9_init_344 : decode cX9_init 344 = .ok (.bipush 10, 2) := by decide +kernel
theorem dX9_init_346 : decode cX9_init 346 = .ok (.newarray .long, 2) := by decide +kernel
theorem dX9_init_348 : decode cX9_init 348 = .ok (.putfield 190, 3) := by decide +kernel
theorem dX9_init_351 : decode cX9_init 351 = .ok (.aload_n 0, 1) := by decide +kernel
theorem dX9_init_352 : decode cX9_init 352 = .ok (.bipush 10, 2) := by decide +kernel
theorem dX9_init_354 : decode cX9_init 354 = .ok (.newarray .int, 2) := by decide +kernel
theorem dX9_init_356 : decode cX9_init 356 = .ok (.putfield 193, 3) := by decide +kernel
theorem dX9_init_359 : decode cX9_init 359 = .ok (.iconst 0, 1) := by decide +kernel
theorem dX9_init_360 : decode cX9_init 360 = .ok (.istore_n 1, 1) := by decide +kernel
theorem dX9_init_361 : decode cX9_init 361 = .ok (.iload_n 1, 1) := by decide +kernel
theorem dX9_init_362 : decode cX9_init 362 = .ok (.iconst 4, 1) := by decide +kernel
theorem dX9_init_363 : decode cX9_init 363 = .ok (.if_icmp .gt 14, 3) := by decide +kernel
theorem dX9_init_366 : decode cX9_init 366 = .ok (.aload_n 0, 1) := by decide +kernel
theorem dX9_init_367 : decode cX9_init 367 = .ok (.iload_n 1, 1) := by decide +kernel
theorem dX9_init_368 : decode cX9_init 368 = .ok (.invokevirtual 196, 3) := by decide +kernel
theorem dX9_init_371 : decode cX9_init 371 = .ok (.iinc 1 1, 3) := by decide +kernel
theorem dX9_init_374 : decode cX9_init 374 = .ok (.goto (-13), 3) := by decide +kernel
theorem dX9_init_377 : decode cX9_init 377 = .ok (.return_, 1) := by decide +kernel
theorem dX9_later_0 : decode cX9_later 0 = .ok (.iload_n 1, 1) := by decide +kernel
theorem dX9_later_1 : decode cX9_later 1 = .ok (.ifCond .lt 22, 3) := by decide +kernel
theorem dX9_later_4 : decode cX9_later 4 = .ok (.iload_n 1, 1) := by decide +kernel
theorem dX9_later_5 : decode cX9_later 5 = .ok (.sipush 1000, 3) := by decide +kernel
theorem dX9_later_8 : decode cX9_later 8 = .ok (.if_icmp .gt 15, 3) := by decide +kernel
theorem dX9_later_11 : decode cX9_later 11 = .ok (.aload_n 0, 1) := by decide +kernel
theorem dX9_later_12 : decode cX9_later 12 = .ok (.getfield 343, 3) := by decide +kernel
theorem dX9_later_15 : decode cX9_later 15 = .ok (.iload_n 1, 1) := by decide +kernel
theorem dX9_later_16 : decode cX9_later 16 = .ok (.iadd, 1) := by decide +kernel
theorem dX9_later_17 : decode cX9_later 17 = .ok (.ldc_w 358, 3) := by decide +kernel
theorem dX9_later_20 : decode cX9_later 20 = .ok (.if_icmp .le 5, 3) := by decide +kernel
theorem dX9_later_23 : decode cX9_later 23 = .ok (.iconst (-1), 1) := by decide +kernel
theorem dX9_later_24 : decode cX9_later 24 = .ok (.ireturn, 1) := by decide +kernel
theorem dX9_later_25 : decode cX9_later 25 = .ok (.aload_n 0, 1) := by decide +kernel
theorem dX9_later_26 : decode cX9_later 26 = .ok (.dup, 1) := by decide +kernel
theorem dX9_later_27 : decode cX9_later 27 = .ok (.getfield 343, 3) := by decide +kernel
theorem dX9_later_30 : decode cX9_later 30 = .ok (.iload_n 1, 1) := by decide +kernel
theorem dX9_later_31 : decode cX9_later 31 = .ok (.iadd, 1) := by decide +kernel
theorem dX9_later_32 : decode cX9_later 32 = .ok (.putfield 343, 3) := by decide +kernel
theorem dX9_later_35 : decode cX9_later 35 = .ok (.aload_n 0, 1) := by decide +kernel
theorem dX9_later_36 : decode cX9_later 36 = .ok (.getfield 343, 3) := by decide +kernel
theorem dX9_later_39 : decode cX9_later 39 = .ok (.ireturn, 1) := by decide +kernel
theorem dX9_link_0 : decode cX9_link 0 = .ok (.aload_n 0, 1) := by decide +kernel
theorem dX9_link_1 : decode cX9_link 1 = .ok (.iload_n 1, 1) := by decide +kernel
theorem dX9_link_2 : decode cX9_link 2 = .ok (.iload_n 2, 1) := by decide +kernel
theorem dX9_link_3 : decode cX9_link 3 = .ok (.iload 4, 2) := by decide +kernel
theorem dX9_link_5 : decode cX9_link 5 = .ok (.iload 5, 2) := by decide +kernel
theorem dX9_link_7 : decode cX9_link 7 = .ok (.invokevirtual 466, 3) := by decide +kernel
theorem dX9_link_10 : decode cX9_link 10 = .ok (.ifCond .eq 29, 3) := by decide +kernel
theorem dX9_link_13 : decode cX9_link 13 = .ok (.iload_n 3, 1) := by decide +kernel
theorem dX9_link_14 : decode cX9_link 14 = .ok (.ifCond .lt 25, 3) := by decide +kernel
theorem dX9_link_17 : decode cX9_link 17 = .ok (.iload_n 3, 1) := by decide +kernel
theorem dX9_link_18 : decode cX9_link 18 = .ok (.aload_n 0, 1) := by decide +kernel
theorem dX9_link_19 : decode cX9_link 19 = .ok (.getfield 457, 3) := by decide +kernel
theorem dX9_link_22 : decode cX9_link 22 = .ok (.if_icmp .ge 17, 3) := by decide +kernel
theorem dX9_link_25 : decode cX9_link 25 = .ok (.aload_n 0, 1) := by decide +kernel
theorem dX9_link_26 : decode cX9_link 26 = .ok (.getfield 175, 3) := by decide +kernel
theorem dX9_link_29 : decode cX9_link 29 = .ok (.aload_n 0, 1) := by decide +kernel
theorem dX9_link_30 : decode cX9_link 30 = .ok (.getfield 184, 3) := by decide +kernel
theorem dX9_link_33 : decode cX9_link 33 = .ok (.iload_n 3, 1) := by decide +kernel
theorem dX9_link_34 : decode cX9_link 34 = .ok (.iaload, 1) := by decide +kernel
theorem dX9_link_35 : decode cX9_link 35 = .ok (.iaload, 1) := by decide +kernel
theorem dX9_link_36 : decode cX9_link 36 = .ok (.goto 4, 3) := by decide +kernel
theorem dX9_link_39 : decode cX9_link 39 = .ok (.iconst (-1), 1) := by decide +kernel
theorem dX9_link_40 : decode cX9_link 40 = .ok (.ireturn, 1) := by decide +kernel
theorem dX9_lost_0 : decode cX9_lost 0 = .ok (.aload_n 0, 1) := by decide +kernel
theorem dX9_lost_1 : decode cX9_lost 1 = .ok (.iload_n 1, 1) := by decide +kernel
theorem dX9_lost_2 : decode cX9_lost 2 = .ok (.invokevirtual 346, 3) := by decide +kernel
theorem dX9_lost_5 : decode cX9_lost 5 = .ok (.ifCond .eq 22, 3) := by decide +kernel
theorem dX9_lost_8 : decode cX9_lost 8 = .ok (.iload_n 2, 1) := by decide +kernel
theorem dX9_lost_9 : decode cX9_lost 9 = .ok (.invokestatic 349, 3) := by decide +kernel
theorem dX9_lost_12 : decode cX9_lost 12 = .ok (.ifCond .eq 15, 3) := by decide +kernel
theorem dX9_lost_15 : decode cX9_lost 15 = .ok (.aload_n 0, 1) := by decide +kernel
theorem dX9_lost_16 : decode cX9_lost 16 = .ok (.iconst 1, 1) := by decide +kernel
theorem dX9_lost_17 : decode cX9_lost 17 = .ok (.iload_n 1, 1) := by decide +kernel
theorem dX9_lost_18 : decode cX9_lost 18 = .ok (.iload_n 2, 1) := by decide +kernel
theorem dX9_lost_19 : decode cX9_lost 19 = .ok (.iconst 0, 1) := by decide +kernel
theorem dX9_lost_20 : decode cX9_lost 20 = .ok (.iconst 0, 1) := by decide +kernel
theorem dX9_lost_21 : decode cX9_lost 21 = .ok (.invokevirtual 352, 3) := by decide +kernel
theorem dX9_lost_24 : decode cX9_lost 24 = .ok (.goto 4, 3) := by decide +kernel
theorem dX9_lost_27 : decode cX9_lost 27 = .ok (.iconst (-1), 1) := by decide +kernel
theorem dX9_lost_28 : decode cX9_lost 28 = .ok (.ireturn, 1) := by decide +kernel
def f_X9_gather_L67 : Nat → Nat → Int32 → Int32 → Int32 → Int32 → Int32 → Int32 → Hp → Option ((Int32 × Hp))
  | 0, _, _, _, _, _, _, _, _ => none
  | n + 1, a0, v1, v2, v4, v5, v6, v7, h =>
    if v7 ≤ (0 : Int32) then
      some (v7, h)
    else
      (getQ h (some a0) 8 34).bind fun x25 =>
      (getQ h (some a0) 8 59).bind fun x27 =>
      (rdI h x27 10 (v7 - (1 : Int32))).bind fun x29 =>
      (rdI h x25 10 x29).bind fun x31 =>
      (getQ h (some a0) 8 34).bind fun x33 =>
      (rdI h x33 10 v5).bind fun x35 =>
      if x31 ≤ x35 then
        some (v7, h)
      else
        (getQ h (some a0) 8 59).bind fun x38 =>
        (getQ h (some a0) 8 59).bind fun x40 =>
        (rdI h x40 10 (v7 - (1 : Int32))).bind fun x42 =>
        (wrI h x38 v7 x42).bind fun h44 =>
        (getQ h44 (some a0) 8 60).bind fun x46 =>
        (getQ h44 (some a0) 8 60).bind fun x48 =>
        (rdI h44 x48 10 (v7 - (1 : Int32))).bind fun x50 =>
        (wrI h44 x46 v7 x50).bind fun h52 =>
        (getQ h52 (some a0) 8 61).bind fun x54 =>
        (getQ h52 (some a0) 8 61).bind fun x56 =>
        (rdI h52 x56 10 (v7 - (1 : Int32))).bind fun x58 =>
        (wrI h52 x54 v7 x58).bind fun h60 =>
        f_X9_gather_L67 n a0 v1 v2 v4 v5 v6 (v7 + (-1)) h60
def f_X9_gather_L17 : Nat → Nat → Int32 → Int32 → Int32 → Int32 → Hp → Option ((Hp))
  | 0, _, _, _, _, _, _ => none
  | n + 1, a0, v1, v2, v4, v5, h =>
    (getI h (some a0) 8 41).bind fun x7 =>
    if x7 ≤ v5 then
      some h
    else
      (rc h (some a0) 8).bind fun g12 =>
      b1 (f_X9_counts g12 v5 (3 : Int32) v2 v4 h) fun x14 h10 =>
      Option.bind ((if x14 = (0 : Int32) then
          some h10
        else
          (rc h10 (some a0) 8).bind fun g86 =>
          b1 (f_X9_owedOf g86 v1 v5 v4 h10) fun x88 h84 =>
          if x88 = (0 : Int32) then
            some h84
          else
            (getI h84 (some a0) 8 63).bind fun x90 =>
            b1 (f_X9_gather_L67 fu a0 v1 v2 v4 v5 x88 x90 h84) fun w92 h93 =>
            (getQ h93 (some a0) 8 59).bind fun x94 =>
            (wrI h93 x94 w92 v5).bind fun h96 =>
            (getQ h96 (some a0) 8 60).bind fun x98 =>
            (wrI h96 x98 w92 x88).bind fun h100 =>
            (getQ h100 (some a0) 8 61).bind fun x102 =>
            (getI h100 (some a0) 8 58).bind fun x104 =>
            (wrI h100 x102 w92 x104).bind fun h106 =>
            (getI h106 (some a0) 8 63).bind fun x108 =>
            (putI h106 (some a0) 8 63 (x108 + (1 : Int32))).bind fun h110 =>
            some h110 : Option (Hp))) fun h114 =>
      f_X9_gather_L17 n a0 v1 v2 v4 (v5 + 1) h114
def f_X9_gather (a0 : Nat) (v1 : Int32) (v2 : Int32) (v3 : Int32) (v4 : Int32) (h : Hp) : Option (Hp) :=
  (rc h (some a0) 8).bind fun g3 =>
  (f_X9_reckon g3 v1 v2 v3 v4 h).bind fun h1 =>
  (putI h1 (some a0) 8 63 0).bind fun h5 =>
  (f_X9_gather_L17 fu a0 v1 v2 v4 0 h5).bind fun h116 =>
  some h116
set_option maxHeartbeats 4000000 in
theorem tl_X9_gather_67 (E : En) (d : Nat) {mc ms : Nat} {K : Option Vv → Hp → Prop} : ∀ (n : Nat) (a0 : Nat) (v1 : Int32) (v2 : Int32) (v4 : Int32) (v5 : Int32) (v6 : Int32) (v7 : Int32) (h : Hp) (u7 : Int32) (hz : Hp), f_X9_gather_L67 n a0 v1 v2 v4 v5 v6 v7 h = some (u7, hz) → MW E m_X9_gather (d + 6) mc ms 150 [some (vq (some a0)), some (vi v1), some (vi v2), none, some (vi v4), some (vi v5), some (vi v6), some (vi u7)] [] hz K → MW E m_X9_gather (d + 6) mc ms 67 [some (vq (some a0)), some (vi v1), some (vi v2), none, some (vi v4), some (vi v5), some (vi v6), some (vi v7)] [] h K := by
  intro n
  induction n with
  | zero => intro a0 v1 v2 v4 v5 v6 v7 h u7 hz hf; exact nomatch (show none = some _ from hf)
  | succ n ih =>
    intro a0 v1 v2 v4 v5 v6 v7 h u7 hz hf hX150
    rw [f_X9_gather_L67] at hf
    refine mw_iload (x := v7) dX9_gather_67 rfl ?_
    refine mw_if_le (tgt := 150) dX9_gather_69 rfl (fun c24 => ?_) (fun c24 => ?_)
    · rw [if_pos c24] at hf
      obtain ⟨rfl, rfl⟩ := y1 hf
      exact MW.sub (subL_s (subL_s (subL_s (subL_n (subL_s (subL_s (subL_s (subL_s subL_nil)))))))) hX150
    · rw [if_neg c24] at hf
      refine mw_aload_n (x := (some a0)) dX9_gather_72 rfl ?_
      obtain ⟨x25, e26, hf⟩ := ob hf
      refine ml_getQ dX9_gather_73 fl_RX9_129 rfl e26 ?_
      refine mw_aload_n (x := (some a0)) dX9_gather_76 rfl ?_
      obtain ⟨x27, e28, hf⟩ := ob hf
      refine ml_getQ dX9_gather_77 fl_RX9_175 rfl e28 ?_
      refine mw_iload (x := v7) dX9_gather_80 rfl ?_
      refine mw_iconst (v := 1) dX9_gather_82 (by decide) ?_
      refine mw_isub dX9_gather_83 ?_
      obtain ⟨x29, e30, hf⟩ := ob hf
      refine ml_iald dX9_gather_84 e30 ?_
      obtain ⟨x31, e32, hf⟩ := ob hf
      refine ml_iald dX9_gather_85 e32 ?_
      refine mw_aload_n (x := (some a0)) dX9_gather_86 rfl ?_
      obtain ⟨x33, e34, hf⟩ := ob hf
      refine ml_getQ dX9_gather_87 fl_RX9_129 rfl e34 ?_
      refine mw_iload (x := v5) dX9_gather_90 rfl ?_
      obtain ⟨x35, e36, hf⟩ := ob hf
      refine ml_iald dX9_gather_92 e36 ?_
      refine mw_icmp_le (tgt := 150) dX9_gather_93 rfl (fun c37 => ?_) (fun c37 => ?_)
      · rw [if_pos c37] at hf
        obtain ⟨rfl, rfl⟩ := y1 hf
        exact MW.sub (subL_s (subL_s (subL_s (subL_n (subL_s (subL_s (subL_s (subL_s subL_nil)))))))) hX150
      · rw [if_neg c37] at hf
        refine mw_aload_n (x := (some a0)) dX9_gather_96 rfl ?_
        obtain ⟨x38, e39, hf⟩ := ob hf
        refine ml_getQ dX9_gather_97 fl_RX9_175 rfl e39 ?_
        refine mw_iload (x := v7) dX9_gather_100 rfl ?_
        refine mw_aload_n (x := (some a0)) dX9_gather_102 rfl ?_
        obtain ⟨x40, e41, hf⟩ := ob hf
        refine ml_getQ dX9_gather_103 fl_RX9_175 rfl e41 ?_
        refine mw_iload (x := v7) dX9_gather_106 rfl ?_
        refine mw_iconst (v := 1) dX9_gather_108 (by decide) ?_
        refine mw_isub dX9_gather_109 ?_
        obtain ⟨x42, e43, hf⟩ := ob hf
        refine ml_iald dX9_gather_110 e43 ?_
        obtain ⟨h44, e45, hf⟩ := ob hf
        refine ml_iast dX9_gather_111 e45 ?_
        refine mw_aload_n (x := (some a0)) dX9_gather_112 rfl ?_
        obtain ⟨x46, e47, hf⟩ := ob hf
        refine ml_getQ dX9_gather_113 fl_RX9_178 rfl e47 ?_
        refine mw_iload (x := v7) dX9_gather_116 rfl ?_
        refine mw_aload_n (x := (some a0)) dX9_gather_118 rfl ?_
        obtain ⟨x48, e49, hf⟩ := ob hf
        refine ml_getQ dX9_gather_119 fl_RX9_178 rfl e49 ?_
        refine mw_iload (x := v7) dX9_gather_122 rfl ?_
        refine mw_iconst (v := 1) dX9_gather_124 (by decide) ?_
        refine mw_isub dX9_gather_125 ?_
        obtain ⟨x50, e51, hf⟩ := ob hf
        refine ml_iald dX9_gather_126 e51 ?_
        obtain ⟨h52, e53, hf⟩ := ob hf
        refine ml_iast dX9_gather_127 e53 ?_
        refine mw_aload_n (x := (some a0)) dX9_gather_128 rfl ?_
        obtain ⟨x54, e55, hf⟩ := ob hf
        refine ml_getQ dX9_gather_129 fl_RX9_181 rfl e55 ?_
        refine mw_iload (x := v7) dX9_gather_132 rfl ?_
        refine mw_aload_n (x := (some a0)) dX9_gather_134 rfl ?_
        obtain ⟨x56, e57, hf⟩ := ob hf
        refine ml_getQ dX9_gather_135 fl_RX9_181 rfl e57 ?_
        refine mw_iload (x := v7) dX9_gather_138 rfl ?_
        refine mw_iconst (v := 1) dX9_gather_140 (by decide) ?_
        refine mw_isub dX9_gather_141 ?_
        obtain ⟨x58, e59, hf⟩ := ob hf
        refine ml_iald dX9_gather_142 e59 ?_
        obtain ⟨h60, e61, hf⟩ := ob hf
        refine ml_iast dX9_gather_143 e61 ?_
        refine mw_iinc (x := v7) (v := v7 + (-1)) dX9_gather_144 rfl rfl (by decide) rfl ?_
        refine mw_goto (tgt := 67) dX9_gather_147 rfl ?_
        exact MW.sub (subL_s (subL_s (subL_s (subL_n (subL_s (subL_s (subL_s (subL_s subL_nil)))))))) (ih _ _ _ _ _ _ _ _ _ _ hf hX150)
set_option maxHeartbeats 4000000 in
theorem tl_X9_gather_17 (E : En) (d : Nat) {mc ms : Nat} {K : Option Vv → Hp → Prop} : ∀ (n : Nat) (a0 : Nat) (v1 : Int32) (v2 : Int32) (v4 : Int32) (v5 : Int32) (h : Hp) (hz : Hp), f_X9_gather_L17 n a0 v1 v2 v4 v5 h = some hz → MW E m_X9_gather (d + 6) mc ms 195 [none, none, none, none, none, none, none, none] [] hz K → MW E m_X9_gather (d + 6) mc ms 17 [some (vq (some a0)), some (vi v1), some (vi v2), none, some (vi v4), some (vi v5), none, none] [] h K := by
  intro n
  induction n with
  | zero => intro a0 v1 v2 v4 v5 h hz hf; exact nomatch (show none = some _ from hf)
  | succ n ih =>
    intro a0 v1 v2 v4 v5 h hz hf hX195
    rw [f_X9_gather_L17] at hf
    refine mw_iload (x := v5) dX9_gather_17 rfl ?_
    refine mw_aload_n (x := (some a0)) dX9_gather_19 rfl ?_
    obtain ⟨x7, e8, hf⟩ := ob hf
    refine ml_getI dX9_gather_20 fl_RX9_340 rfl e8 ?_
    refine mw_icmp_ge (tgt := 195) dX9_gather_23 rfl (fun c9 => ?_) (fun c9 => ?_)
    · rw [if_pos c9] at hf
      obtain rfl := y0 hf
      exact MW.sub (subL_n (subL_n (subL_n (subL_n (subL_n (subL_n (subL_n (subL_n subL_nil)))))))) hX195
    · rw [if_neg c9] at hf
      refine mw_aload_n (x := (some a0)) dX9_gather_26 rfl ?_
      refine mw_iload (x := v5) dX9_gather_27 rfl ?_
      refine mw_iconst (v := 3) dX9_gather_29 (by decide) ?_
      refine mw_iload_n (x := v2) dX9_gather_30 rfl ?_
      refine mw_iload (x := v4) dX9_gather_31 rfl ?_
      obtain ⟨g12, e13, hf⟩ := ob hf
      obtain ⟨x14, h10, e11, hf⟩ := ob1 hf
      refine ml_callV (ci := 8) (mc' := 0) (ms' := 0) [vi v5, vi (3 : Int32), vi v2, vi v4] dX9_gather_33 mk_X9_counts lk_RX9_362 im_X9_counts se_X9_counts (by decide) e13 rfl (Nat.le_of_ble_eq_true rfl) (Nat.le_of_ble_eq_true rfl) (t_X9_counts E _ e11 isR_rfl) ?_
      obtain ⟨h114, r115, hf⟩ := ob hf
      have J119 : MW E m_X9_gather (d + 6) mc ms 189 [some (vq (some a0)), some (vi v1), some (vi v2), none, some (vi v4), some (vi v5), none, none] [] h114 K := by
        refine mw_iinc (x := v5) (v := v5 + 1) dX9_gather_189 rfl rfl (by decide) rfl ?_
        refine mw_goto (tgt := 17) dX9_gather_192 rfl ?_
        exact MW.sub (subL_s (subL_s (subL_s (subL_n (subL_s (subL_s (subL_n (subL_n subL_nil)))))))) (ih _ _ _ _ _ _ _ hf hX195)
      refine mw_if_ne (tgt := 42) dX9_gather_36 rfl (fun c15 => ?_) (fun c15 => ?_)
      · rw [if_neg c15] at r115
        refine mw_aload_n (x := (some a0)) dX9_gather_42 rfl ?_
        refine mw_iload_n (x := v1) dX9_gather_43 rfl ?_
        refine mw_iload (x := v5) dX9_gather_44 rfl ?_
        refine mw_iload (x := v4) dX9_gather_46 rfl ?_
        obtain ⟨g86, e87, r115⟩ := ob r115
        obtain ⟨x88, h84, e85, r115⟩ := ob1 r115
        refine ml_callV (ci := 8) (mc' := 0) (ms' := 0) [vi v1, vi v5, vi v4] dX9_gather_48 mk_X9_owedOf lk_RX9_451 im_X9_owedOf se_X9_owedOf (by decide) e87 rfl (Nat.le_of_ble_eq_true rfl) (Nat.le_of_ble_eq_true rfl) (t_X9_owedOf E _ e85 isR_rfl) ?_
        refine mw_istore dX9_gather_51 (by decide) rfl ?_
        refine mw_iload (x := x88) dX9_gather_53 rfl ?_
        refine mw_if_ne (tgt := 61) dX9_gather_55 rfl (fun c89 => ?_) (fun c89 => ?_)
        · rw [if_neg c89] at r115
          refine mw_aload_n (x := (some a0)) dX9_gather_61 rfl ?_
          obtain ⟨x90, e91, r115⟩ := ob r115
          refine ml_getI dX9_gather_62 fl_RX9_454 rfl e91 ?_
          refine mw_istore dX9_gather_65 (by decide) rfl ?_
          obtain ⟨w92, h93, e112, r115⟩ := ob1 r115
          refine MW.sub (subL_s (subL_s (subL_s (subL_n (subL_s (subL_s (subL_s (subL_s subL_nil)))))))) (tl_X9_gather_67 E d _ _ _ _ _ _ _ _ _ _ _ e112 ?_)
          refine mw_aload_n (x := (some a0)) dX9_gather_150 rfl ?_
          obtain ⟨x94, e95, r115⟩ := ob r115
          refine ml_getQ dX9_gather_151 fl_RX9_175 rfl e95 ?_
          refine mw_iload (x := w92) dX9_gather_154 rfl ?_
          refine mw_iload (x := v5) dX9_gather_156 rfl ?_
          obtain ⟨h96, e97, r115⟩ := ob r115
          refine ml_iast dX9_gather_158 e97 ?_
          refine mw_aload_n (x := (some a0)) dX9_gather_159 rfl ?_
          obtain ⟨x98, e99, r115⟩ := ob r115
          refine ml_getQ dX9_gather_160 fl_RX9_178 rfl e99 ?_
          refine mw_iload (x := w92) dX9_gather_163 rfl ?_
          refine mw_iload (x := x88) dX9_gather_165 rfl ?_
          obtain ⟨h100, e101, r115⟩ := ob r115
          refine ml_iast dX9_gather_167 e101 ?_
          refine mw_aload_n (x := (some a0)) dX9_gather_168 rfl ?_
          obtain ⟨x102, e103, r115⟩ := ob r115
          refine ml_getQ dX9_gather_169 fl_RX9_181 rfl e103 ?_
          refine mw_iload (x := w92) dX9_gather_172 rfl ?_
          refine mw_aload_n (x := (some a0)) dX9_gather_174 rfl ?_
          obtain ⟨x104, e105, r115⟩ := ob r115
          refine ml_getI dX9_gather_175 fl_RX9_432 rfl e105 ?_
          obtain ⟨h106, e107, r115⟩ := ob r115
          refine ml_iast dX9_gather_178 e107 ?_
          refine mw_aload_n (x := (some a0)) dX9_gather_179 rfl ?_
          refine mw_dupq dX9_gather_180 ?_
          obtain ⟨x108, e109, r115⟩ := ob r115
          refine ml_getI dX9_gather_181 fl_RX9_454 rfl e109 ?_
          refine mw_iconst (v := 1) dX9_gather_184 (by decide) ?_
          refine mw_iadd dX9_gather_185 ?_
          obtain ⟨h110, e111, r115⟩ := ob r115
          refine ml_putI dX9_gather_186 fl_RX9_454 (Or.inl rfl) rfl rfl e111 ?_
          obtain rfl := y0 r115
          exact MW.sub (subL_s (subL_s (subL_s (subL_n (subL_s (subL_s (subL_n (subL_n subL_nil)))))))) J119
        · rw [if_pos c89] at r115
          refine mw_goto (tgt := 189) dX9_gather_58 rfl ?_
          obtain rfl := y0 r115
          exact MW.sub (subL_s (subL_s (subL_s (subL_n (subL_s (subL_s (subL_n (subL_n subL_nil)))))))) J119
      · rw [if_pos c15] at r115
        refine mw_goto (tgt := 189) dX9_gather_39 rfl ?_
        obtain rfl := y0 r115
        exact MW.sub (subL_s (subL_s (subL_s (subL_n (subL_s (subL_s (subL_n (subL_n subL_nil)))))))) J119
set_option maxHeartbeats 4000000 in
theorem t_X9_gather (E : En) (d : Nat) {mc ms : Nat} {a0 : Nat} {v1 : Int32} {v2 : Int32} {v3 : Int32} {v4 : Int32} {h h' : Hp} {K : Option Vv → Hp → Prop} (hf : f_X9_gather a0 v1 v2 v3 v4 h = some h') (hk : K none h') : MC E m_X9_gather (d + 6) mc ms [vq (some a0), vi v1, vi v2, vi v3, vi v4] h K := by
  unfold f_X9_gather at hf
  show MW E m_X9_gather (d + 6) mc ms 0 [some (vq (some a0)), some (vi v1), some (vi v2), some (vi v3), some (vi v4), none, none, none] [] h K
  refine mw_aload_n (x := (some a0)) dX9_gather_0 rfl ?_
  refine mw_iload_n (x := v1) dX9_gather_1 rfl ?_
  refine mw_iload_n (x := v2) dX9_gather_2 rfl ?_
  refine mw_iload_n (x := v3) dX9_gather_3 rfl ?_
  refine mw_iload (x := v4) dX9_gather_4 rfl ?_
  obtain ⟨g3, e4, hf⟩ := ob hf
  obtain ⟨h1, e2, hf⟩ := ob hf
  refine ml_callV (ci := 8) (mc' := 0) (ms' := 0) [vi v1, vi v2, vi v3, vi v4] dX9_gather_6 mk_X9_reckon lk_RX9_425 im_X9_reckon se_X9_reckon (by decide) e4 rfl (Nat.le_of_ble_eq_true rfl) (Nat.le_of_ble_eq_true rfl) (t_X9_reckon E _ e2 isR_rfl) ?_
  refine mw_aload_n (x := (some a0)) dX9_gather_9 rfl ?_
  refine mw_iconst (v := 0) dX9_gather_10 (by decide) ?_
  obtain ⟨h5, e6, hf⟩ := ob hf
  refine ml_putI dX9_gather_11 fl_RX9_454 (Or.inl rfl) rfl rfl e6 ?_
  refine mw_iconst (v := 0) dX9_gather_14 (by decide) ?_
  refine mw_istore dX9_gather_15 (by decide) rfl ?_
  obtain ⟨h116, e117, hf⟩ := ob hf
  refine MW.sub (subL_s (subL_s (subL_s (subL_n (subL_s (subL_s (subL_n (subL_n subL_nil)))))))) (tl_X9_gather_17 E d _ _ _ _ _ _ _ _ e117 ?_)
  obtain rfl := y0 hf
  exact mw_return dX9_gather_195 rfl hk
def f_X9_chainOf_L20 : Nat → Nat → Int32 → Int32 → Int32 → Hp → Option ((Int32 × Hp))
  | 0, _, _, _, _, _ => none
  | n + 1, a0, v1, v3, v4, h =>
    if v4 < (0 : Int32) then
      some (v4, h)
    else
      (getQ h (some a0) 8 34).bind fun x10 =>
      (getQ h (some a0) 8 59).bind fun x12 =>
      (rdI h x12 10 v4).bind fun x14 =>
      (rdI h x10 10 x14).bind fun x16 =>
      if x16 ≤ v3 then
        some (v4, h)
      else
        f_X9_chainOf_L20 n a0 v1 v3 (v4 + (-1)) h
def f_X9_chainOf_L72 : Nat → Nat → Int32 → Int32 → Int32 → Int32 → Int32 → Hp → Option ((Hp))
  | 0, _, _, _, _, _, _, _ => none
  | n + 1, a0, v1, v3, v4, v5, v6, h =>
    if v4 < (0 : Int32) then
      some h
    else
      (getQ h (some a0) 8 34).bind fun x30 =>
      (getQ h (some a0) 8 59).bind fun x32 =>
      (rdI h x32 10 v4).bind fun x34 =>
      (rdI h x30 10 x34).bind fun x36 =>
      if v6 < (v5 - x36) then
        some h
      else
        (getQ h (some a0) 8 34).bind fun x39 =>
        (getQ h (some a0) 8 59).bind fun x41 =>
        (rdI h x41 10 v4).bind fun x43 =>
        (rdI h x39 10 x43).bind fun x45 =>
        (getQ h (some a0) 8 11).bind fun x47 =>
        (rdI h x47 10 (((7 : Int32) * v1) + (5 : Int32))).bind fun x49 =>
        Option.bind ((if x49 < (v3 - x45) then
            some h
          else
            (getQ h (some a0) 8 62).bind fun x62 =>
            (getI h (some a0) 8 64).bind fun x64 =>
            (wrI h x62 x64 v4).bind fun h66 =>
            (getI h66 (some a0) 8 64).bind fun x68 =>
            (putI h66 (some a0) 8 64 (x68 + (1 : Int32))).bind fun h70 =>
            some h70 : Option (Hp))) fun h72 =>
        (getQ h72 (some a0) 8 34).bind fun x74 =>
        (getQ h72 (some a0) 8 59).bind fun x76 =>
        (rdI h72 x76 10 v4).bind fun x78 =>
        (rdI h72 x74 10 x78).bind fun x80 =>
        (getQ h72 (some a0) 8 11).bind fun x82 =>
        (rdI h72 x82 10 (((7 : Int32) * v1) + (3 : Int32))).bind fun x84 =>
        f_X9_chainOf_L72 n a0 v1 v3 (v4 + (-1)) x80 x84 h72
def f_X9_chainOf (a0 : Nat) (v1 : Int32) (v2 : Int32) (h : Hp) : Option (Hp) :=
  (getQ h (some a0) 8 34).bind fun x1 =>
  (rdI h x1 10 v2).bind fun x3 =>
  (putI h (some a0) 8 64 0).bind fun h5 =>
  (getI h5 (some a0) 8 63).bind fun x7 =>
  b1 (f_X9_chainOf_L20 fu a0 v1 x3 (x7 - (1 : Int32)) h5) fun w19 h20 =>
  b1 ((if (0 : Int32) ≤ w19 then
      some (x3, h20)
    else
      some (0, h20) : Option (Int32 × Hp))) fun w22 h23 =>
  (getQ h23 (some a0) 8 11).bind fun x25 =>
  (rdI h23 x25 10 (((7 : Int32) * v1) + (4 : Int32))).bind fun x27 =>
  (f_X9_chainOf_L72 fu a0 v1 x3 w19 w22 x27 h23).bind fun h86 =>
  some h86
set_option maxHeartbeats 4000000 in
theorem tl_X9_chainOf_20 (E : En) (d : Nat) {mc ms : Nat} {K : Option Vv → Hp → Prop} : ∀ (n : Nat) (a0 : Nat) (v1 : Int32) (v3 : Int32) (v4 : Int32) (h : Hp) (u4 : Int32) (hz : Hp), f_X9_chainOf_L20 n a0 v1 v3 v4 h = some (u4, hz) → MW E m_X9_chainOf (d + 0) mc ms 47 [some (vq (some a0)), some (vi v1), none, some (vi v3), some (vi u4), none, none] [] hz K → MW E m_X9_chainOf (d + 0) mc ms 20 [some (vq (some a0)), some (vi v1), none, some (vi v3), some (vi v4), none, none] [] h K := by
  intro n
  induction n with
  | zero => intro a0 v1 v3 v4 h u4 hz hf; exact nomatch (show none = some _ from hf)
  | succ n ih =>
    intro a0 v1 v3 v4 h u4 hz hf hX47
    rw [f_X9_chainOf_L20] at hf
    refine mw_iload (x := v4) dX9_chainOf_20 rfl ?_
    refine mw_if_lt (tgt := 47) dX9_chainOf_22 rfl (fun c9 => ?_) (fun c9 => ?_)
    · rw [if_pos c9] at hf
      obtain ⟨rfl, rfl⟩ := y1 hf
      exact MW.sub (subL_s (subL_s (subL_n (subL_s (subL_s (subL_n (subL_n subL_nil))))))) hX47
    · rw [if_neg c9] at hf
      refine mw_aload_n (x := (some a0)) dX9_chainOf_25 rfl ?_
      obtain ⟨x10, e11, hf⟩ := ob hf
      refine ml_getQ dX9_chainOf_26 fl_RX9_129 rfl e11 ?_
      refine mw_aload_n (x := (some a0)) dX9_chainOf_29 rfl ?_
      obtain ⟨x12, e13, hf⟩ := ob hf
      refine ml_getQ dX9_chainOf_30 fl_RX9_175 rfl e13 ?_
      refine mw_iload (x := v4) dX9_chainOf_33 rfl ?_
      obtain ⟨x14, e15, hf⟩ := ob hf
      refine ml_iald dX9_chainOf_35 e15 ?_
      obtain ⟨x16, e17, hf⟩ := ob hf
      refine ml_iald dX9_chainOf_36 e17 ?_
      refine mw_iload_n (x := v3) dX9_chainOf_37 rfl ?_
      refine mw_icmp_le (tgt := 47) dX9_chainOf_38 rfl (fun c18 => ?_) (fun c18 => ?_)
      · rw [if_pos c18] at hf
        obtain ⟨rfl, rfl⟩ := y1 hf
        exact MW.sub (subL_s (subL_s (subL_n (subL_s (subL_s (subL_n (subL_n subL_nil))))))) hX47
      · rw [if_neg c18] at hf
        refine mw_iinc (x := v4) (v := v4 + (-1)) dX9_chainOf_41 rfl rfl (by decide) rfl ?_
        refine mw_goto (tgt := 20) dX9_chainOf_44 rfl ?_
        exact MW.sub (subL_s (subL_s (subL_n (subL_s (subL_s (subL_n (subL_n subL_nil))))))) (ih _ _ _ _ _ _ _ hf hX47)
set_option maxHeartbeats 4000000 in
theorem tl_X9_chainOf_72 (E : En) (d : Nat) {mc ms : Nat} {K : Option Vv → Hp → Prop} : ∀ (n : Nat) (a0 : Nat) (v1 : Int32) (v3 : Int32) (v4 : Int32) (v5 : Int32) (v6 : Int32) (h : Hp) (hz : Hp), f_X9_chainOf_L72 n a0 v1 v3 v4 v5 v6 h = some hz → MW E m_X9_chainOf (d + 0) mc ms 179 [none, none, none, none, none, none, none] [] hz K → MW E m_X9_chainOf (d + 0) mc ms 72 [some (vq (some a0)), some (vi v1), none, some (vi v3), some (vi v4), some (vi v5), some (vi v6)] [] h K := by
  intro n
  induction n with
  | zero => intro a0 v1 v3 v4 v5 v6 h hz hf; exact nomatch (show none = some _ from hf)
  | succ n ih =>
    intro a0 v1 v3 v4 v5 v6 h hz hf hX179
    rw [f_X9_chainOf_L72] at hf
    refine mw_iload (x := v4) dX9_chainOf_72 rfl ?_
    refine mw_if_lt (tgt := 179) dX9_chainOf_74 rfl (fun c29 => ?_) (fun c29 => ?_)
    · rw [if_pos c29] at hf
      obtain rfl := y0 hf
      exact MW.sub (subL_n (subL_n (subL_n (subL_n (subL_n (subL_n (subL_n subL_nil))))))) hX179
    · rw [if_neg c29] at hf
      refine mw_iload (x := v5) dX9_chainOf_77 rfl ?_
      refine mw_aload_n (x := (some a0)) dX9_chainOf_79 rfl ?_
      obtain ⟨x30, e31, hf⟩ := ob hf
      refine ml_getQ dX9_chainOf_80 fl_RX9_129 rfl e31 ?_
      refine mw_aload_n (x := (some a0)) dX9_chainOf_83 rfl ?_
      obtain ⟨x32, e33, hf⟩ := ob hf
      refine ml_getQ dX9_chainOf_84 fl_RX9_175 rfl e33 ?_
      refine mw_iload (x := v4) dX9_chainOf_87 rfl ?_
      obtain ⟨x34, e35, hf⟩ := ob hf
      refine ml_iald dX9_chainOf_89 e35 ?_
      obtain ⟨x36, e37, hf⟩ := ob hf
      refine ml_iald dX9_chainOf_90 e37 ?_
      refine mw_isub dX9_chainOf_91 ?_
      refine mw_iload (x := v6) dX9_chainOf_92 rfl ?_
      refine mw_icmp_gt (tgt := 179) dX9_chainOf_94 rfl (fun c38 => ?_) (fun c38 => ?_)
      · rw [if_pos c38] at hf
        obtain rfl := y0 hf
        exact MW.sub (subL_n (subL_n (subL_n (subL_n (subL_n (subL_n (subL_n subL_nil))))))) hX179
      · rw [if_neg c38] at hf
        refine mw_iload_n (x := v3) dX9_chainOf_97 rfl ?_
        refine mw_aload_n (x := (some a0)) dX9_chainOf_98 rfl ?_
        obtain ⟨x39, e40, hf⟩ := ob hf
        refine ml_getQ dX9_chainOf_99 fl_RX9_129 rfl e40 ?_
        refine mw_aload_n (x := (some a0)) dX9_chainOf_102 rfl ?_
        obtain ⟨x41, e42, hf⟩ := ob hf
        refine ml_getQ dX9_chainOf_103 fl_RX9_175 rfl e42 ?_
        refine mw_iload (x := v4) dX9_chainOf_106 rfl ?_
        obtain ⟨x43, e44, hf⟩ := ob hf
        refine ml_iald dX9_chainOf_108 e44 ?_
        obtain ⟨x45, e46, hf⟩ := ob hf
        refine ml_iald dX9_chainOf_109 e46 ?_
        refine mw_isub dX9_chainOf_110 ?_
        refine mw_aload_n (x := (some a0)) dX9_chainOf_111 rfl ?_
        obtain ⟨x47, e48, hf⟩ := ob hf
        refine ml_getQ dX9_chainOf_112 fl_RX9_62 rfl e48 ?_
        refine mw_bipush (v := 7) dX9_chainOf_115 (by decide) ?_
        refine mw_iload_n (x := v1) dX9_chainOf_117 rfl ?_
        refine mw_imul dX9_chainOf_118 ?_
        refine mw_iconst (v := 5) dX9_chainOf_119 (by decide) ?_
        refine mw_iadd dX9_chainOf_120 ?_
        obtain ⟨x49, e50, hf⟩ := ob hf
        refine ml_iald dX9_chainOf_121 e50 ?_
        obtain ⟨h72, r73, hf⟩ := ob hf
        have J91 : MW E m_X9_chainOf (d + 0) mc ms 146 [some (vq (some a0)), some (vi v1), none, some (vi v3), some (vi v4), none, none] [] h72 K := by
          refine mw_aload_n (x := (some a0)) dX9_chainOf_146 rfl ?_
          obtain ⟨x74, e75, hf⟩ := ob hf
          refine ml_getQ dX9_chainOf_147 fl_RX9_129 rfl e75 ?_
          refine mw_aload_n (x := (some a0)) dX9_chainOf_150 rfl ?_
          obtain ⟨x76, e77, hf⟩ := ob hf
          refine ml_getQ dX9_chainOf_151 fl_RX9_175 rfl e77 ?_
          refine mw_iload (x := v4) dX9_chainOf_154 rfl ?_
          obtain ⟨x78, e79, hf⟩ := ob hf
          refine ml_iald dX9_chainOf_156 e79 ?_
          obtain ⟨x80, e81, hf⟩ := ob hf
          refine ml_iald dX9_chainOf_157 e81 ?_
          refine mw_istore dX9_chainOf_158 (by decide) rfl ?_
          refine mw_aload_n (x := (some a0)) dX9_chainOf_160 rfl ?_
          obtain ⟨x82, e83, hf⟩ := ob hf
          refine ml_getQ dX9_chainOf_161 fl_RX9_62 rfl e83 ?_
          refine mw_bipush (v := 7) dX9_chainOf_164 (by decide) ?_
          refine mw_iload_n (x := v1) dX9_chainOf_166 rfl ?_
          refine mw_imul dX9_chainOf_167 ?_
          refine mw_iconst (v := 3) dX9_chainOf_168 (by decide) ?_
          refine mw_iadd dX9_chainOf_169 ?_
          obtain ⟨x84, e85, hf⟩ := ob hf
          refine ml_iald dX9_chainOf_170 e85 ?_
          refine mw_istore dX9_chainOf_171 (by decide) rfl ?_
          refine mw_iinc (x := v4) (v := v4 + (-1)) dX9_chainOf_173 rfl rfl (by decide) rfl ?_
          refine mw_goto (tgt := 72) dX9_chainOf_176 rfl ?_
          exact MW.sub (subL_s (subL_s (subL_n (subL_s (subL_s (subL_s (subL_s subL_nil))))))) (ih _ _ _ _ _ _ _ _ hf hX179)
        refine mw_icmp_gt (tgt := 146) dX9_chainOf_122 rfl (fun c51 => ?_) (fun c51 => ?_)
        · rw [if_pos c51] at r73
          obtain rfl := y0 r73
          exact MW.sub (subL_s (subL_s (subL_n (subL_s (subL_s (subL_n (subL_n subL_nil))))))) J91
        · rw [if_neg c51] at r73
          refine mw_aload_n (x := (some a0)) dX9_chainOf_125 rfl ?_
          obtain ⟨x62, e63, r73⟩ := ob r73
          refine ml_getQ dX9_chainOf_126 fl_RX9_184 rfl e63 ?_
          refine mw_aload_n (x := (some a0)) dX9_chainOf_129 rfl ?_
          obtain ⟨x64, e65, r73⟩ := ob r73
          refine ml_getI dX9_chainOf_130 fl_RX9_457 rfl e65 ?_
          refine mw_iload (x := v4) dX9_chainOf_133 rfl ?_
          obtain ⟨h66, e67, r73⟩ := ob r73
          refine ml_iast dX9_chainOf_135 e67 ?_
          refine mw_aload_n (x := (some a0)) dX9_chainOf_136 rfl ?_
          refine mw_dupq dX9_chainOf_137 ?_
          obtain ⟨x68, e69, r73⟩ := ob r73
          refine ml_getI dX9_chainOf_138 fl_RX9_457 rfl e69 ?_
          refine mw_iconst (v := 1) dX9_chainOf_141 (by decide) ?_
          refine mw_iadd dX9_chainOf_142 ?_
          obtain ⟨h70, e71, r73⟩ := ob r73
          refine ml_putI dX9_chainOf_143 fl_RX9_457 (Or.inl rfl) rfl rfl e71 ?_
          obtain rfl := y0 r73
          exact MW.sub (subL_s (subL_s (subL_n (subL_s (subL_s (subL_n (subL_n subL_nil))))))) J91
set_option maxHeartbeats 4000000 in
theorem t_X9_chainOf (E : En) (d : Nat) {mc ms : Nat} {a0 : Nat} {v1 : Int32} {v2 : Int32} {h h' : Hp} {K : Option Vv → Hp → Prop} (hf : f_X9_chainOf a0 v1 v2 h = some h') (hk : K none h') : MC E m_X9_chainOf (d + 0) mc ms [vq (some a0), vi v1, vi v2] h K := by
  unfold f_X9_chainOf at hf
  show MW E m_X9_chainOf (d + 0) mc ms 0 [some (vq (some a0)), some (vi v1), some (vi v2), none, none, none, none] [] h K
  refine mw_aload_n (x := (some a0)) dX9_chainOf_0 rfl ?_
  obtain ⟨x1, e2, hf⟩ := ob hf
  refine ml_getQ dX9_chainOf_1 fl_RX9_129 rfl e2 ?_
  refine mw_iload_n (x := v2) dX9_chainOf_4 rfl ?_
  obtain ⟨x3, e4, hf⟩ := ob hf
  refine ml_iald dX9_chainOf_5 e4 ?_
  refine mw_istore_n dX9_chainOf_6 (by decide) rfl ?_
  refine mw_aload_n (x := (some a0)) dX9_chainOf_7 rfl ?_
  refine mw_iconst (v := 0) dX9_chainOf_8 (by decide) ?_
  obtain ⟨h5, e6, hf⟩ := ob hf
  refine ml_putI dX9_chainOf_9 fl_RX9_457 (Or.inl rfl) rfl rfl e6 ?_
  refine mw_aload_n (x := (some a0)) dX9_chainOf_12 rfl ?_
  obtain ⟨x7, e8, hf⟩ := ob hf
  refine ml_getI dX9_chainOf_13 fl_RX9_454 rfl e8 ?_
  refine mw_iconst (v := 1) dX9_chainOf_16 (by decide) ?_
  refine mw_isub dX9_chainOf_17 ?_
  refine mw_istore dX9_chainOf_18 (by decide) rfl ?_
  obtain ⟨w19, h20, e89, hf⟩ := ob1 hf
  refine MW.sub (subL_s (subL_s (subL_n (subL_s (subL_s (subL_n (subL_n subL_nil))))))) (tl_X9_chainOf_20 E d _ _ _ _ _ _ _ _ e89 ?_)
  refine mw_iload (x := w19) dX9_chainOf_47 rfl ?_
  obtain ⟨w22, h23, r24, hf⟩ := ob1 hf
  have J92 : MW E m_X9_chainOf (d + 0) mc ms 57 [some (vq (some a0)), some (vi v1), none, some (vi x3), some (vi w19), none, none] [vi w22] h23 K := by
    refine mw_istore dX9_chainOf_57 (by decide) rfl ?_
    refine mw_aload_n (x := (some a0)) dX9_chainOf_59 rfl ?_
    obtain ⟨x25, e26, hf⟩ := ob hf
    refine ml_getQ dX9_chainOf_60 fl_RX9_62 rfl e26 ?_
    refine mw_bipush (v := 7) dX9_chainOf_63 (by decide) ?_
    refine mw_iload_n (x := v1) dX9_chainOf_65 rfl ?_
    refine mw_imul dX9_chainOf_66 ?_
    refine mw_iconst (v := 4) dX9_chainOf_67 (by decide) ?_
    refine mw_iadd dX9_chainOf_68 ?_
    obtain ⟨x27, e28, hf⟩ := ob hf
    refine ml_iald dX9_chainOf_69 e28 ?_
    refine mw_istore dX9_chainOf_70 (by decide) rfl ?_
    obtain ⟨h86, e87, hf⟩ := ob hf
    refine MW.sub (subL_s (subL_s (subL_n (subL_s (subL_s (subL_s (subL_s subL_nil))))))) (tl_X9_chainOf_72 E d _ _ _ _ _ _ _ _ _ e87 ?_)
    obtain rfl := y0 hf
    exact mw_return dX9_chainOf_179 rfl hk
  refine mw_if_ge (tgt := 56) dX9_chainOf_49 rfl (fun c21 => ?_) (fun c21 => ?_)
  · rw [if_pos c21] at r24
    refine mw_iload_n (x := x3) dX9_chainOf_56 rfl ?_
    obtain ⟨rfl, rfl⟩ := y1 r24
    exact MW.sub (subL_s (subL_s (subL_n (subL_s (subL_s (subL_n (subL_n subL_nil))))))) J92
  · rw [if_neg c21] at r24
    refine mw_iconst (v := 0) dX9_chainOf_52 (by decide) ?_
    refine mw_goto (tgt := 57) dX9_chainOf_53 rfl ?_
    obtain ⟨rfl, rfl⟩ := y1 r24
    exact MW.sub (subL_s (subL_s (subL_n (subL_s (subL_s (subL_n (subL_n subL_nil))))))) J92
def f_X9_withInterest (a0 : Nat) (v1 : Int32) (v2 : Int32) (v3 : Int32) (h : Hp) : Option (Int64 × Hp) :=
  (getQ h (some a0) 8 60).bind fun x1 =>
  (rdI h x1 10 v2).bind fun x3 =>
  (getQ h (some a0) 8 60).bind fun x5 =>
  (rdI h x5 10 v2).bind fun x7 =>
  (getQ h (some a0) 8 11).bind fun x9 =>
  (rdI h x9 10 (((7 : Int32) * v1) + (6 : Int32))).bind fun x11 =>
  (getQ h (some a0) 8 34).bind fun x13 =>
  (getQ h (some a0) 8 59).bind fun x15 =>
  (rdI h x15 10 v2).bind fun x17 =>
  (rdI h x13 10 x17).bind fun x19 =>
  (dvJ (((x7.toInt64) * (x11.toInt64)) * ((v3 - x19).toInt64)) 365000).bind fun x21 =>
  some (((x3.toInt64) + x21), h)
set_option maxHeartbeats 4000000 in
theorem t_X9_withInterest (E : En) (d : Nat) {mc ms : Nat} {a0 : Nat} {v1 : Int32} {v2 : Int32} {v3 : Int32} {h h' : Hp} {r : Int64} {K : Option Vv → Hp → Prop} (hf : f_X9_withInterest a0 v1 v2 v3 h = some (r, h')) (hk : K (some (vl r)) h') : MC E m_X9_withInterest (d + 0) mc ms [vq (some a0), vi v1, vi v2, vi v3] h K := by
  unfold f_X9_withInterest at hf
  show MW E m_X9_withInterest (d + 0) mc ms 0 [some (vq (some a0)), some (vi v1), some (vi v2), some (vi v3)] [] h K
  refine mw_aload_n (x := (some a0)) dX9_withInterest_0 rfl ?_
  obtain ⟨x1, e2, hf⟩ := ob hf
  refine ml_getQ dX9_withInterest_1 fl_RX9_178 rfl e2 ?_
  refine mw_iload_n (x := v2) dX9_withInterest_4 rfl ?_
  obtain ⟨x3, e4, hf⟩ := ob hf
  refine ml_iald dX9_withInterest_5 e4 ?_
  refine mw_i2l dX9_withInterest_6 ?_
  refine mw_aload_n (x := (some a0)) dX9_withInterest_7 rfl ?_
  obtain ⟨x5, e6, hf⟩ := ob hf
  refine ml_getQ dX9_withInterest_8 fl_RX9_178 rfl e6 ?_
  refine mw_iload_n (x := v2) dX9_withInterest_11 rfl ?_
  obtain ⟨x7, e8, hf⟩ := ob hf
  refine ml_iald dX9_withInterest_12 e8 ?_
  refine mw_i2l dX9_withInterest_13 ?_
  refine mw_aload_n (x := (some a0)) dX9_withInterest_14 rfl ?_
  obtain ⟨x9, e10, hf⟩ := ob hf
  refine ml_getQ dX9_withInterest_15 fl_RX9_62 rfl e10 ?_
  refine mw_bipush (v := 7) dX9_withInterest_18 (by decide) ?_
  refine mw_iload_n (x := v1) dX9_withInterest_20 rfl ?_
  refine mw_imul dX9_withInterest_21 ?_
  refine mw_bipush (v := 6) dX9_withInterest_22 (by decide) ?_
  refine mw_iadd dX9_withInterest_24 ?_
  obtain ⟨x11, e12, hf⟩ := ob hf
  refine ml_iald dX9_withInterest_25 e12 ?_
  refine mw_i2l dX9_withInterest_26 ?_
  refine mw_lmul dX9_withInterest_27 ?_
  refine mw_iload_n (x := v3) dX9_withInterest_28 rfl ?_
  refine mw_aload_n (x := (some a0)) dX9_withInterest_29 rfl ?_
  obtain ⟨x13, e14, hf⟩ := ob hf
  refine ml_getQ dX9_withInterest_30 fl_RX9_129 rfl e14 ?_
  refine mw_aload_n (x := (some a0)) dX9_withInterest_33 rfl ?_
  obtain ⟨x15, e16, hf⟩ := ob hf
  refine ml_getQ dX9_withInterest_34 fl_RX9_175 rfl e16 ?_
  refine mw_iload_n (x := v2) dX9_withInterest_37 rfl ?_
  obtain ⟨x17, e18, hf⟩ := ob hf
  refine ml_iald dX9_withInterest_38 e18 ?_
  obtain ⟨x19, e20, hf⟩ := ob hf
  refine ml_iald dX9_withInterest_39 e20 ?_
  refine mw_isub dX9_withInterest_40 ?_
  refine mw_i2l dX9_withInterest_41 ?_
  refine mw_lmul dX9_withInterest_42 ?_
  refine mw_ldc2 dX9_withInterest_43 kc_RX9_470 ?_
  obtain ⟨x21, e22, hf⟩ := ob hf
  refine ml_ldiv dX9_withInterest_46 e22 ?_
  refine mw_ladd dX9_withInterest_47 ?_
  obtain ⟨rfl, rfl⟩ := y1 hf
  exact mw_lreturn dX9_withInterest_48 rfl hk
def f_X9_payoutOf_L12 : Nat → Nat → Int32 → Int32 → Int32 → Int32 → Hp → Option ((Hp))
  | 0, _, _, _, _, _, _ => none
  | n + 1, a0, v1, v2, v4, v5, h =>
    (getI h (some a0) 8 63).bind fun x5 =>
    if x5 ≤ v5 then
      some h
    else
      (getQ h (some a0) 8 65).bind fun x8 =>
      (wrI h x8 v5 (-1)).bind fun h10 =>
      f_X9_payoutOf_L12 n a0 v1 v2 v4 (v5 + 1) h10
def f_X9_payoutOf_L73 : Nat → Nat → Int32 → Int32 → Int32 → Int32 → Int32 → Hp → Option ((Hp))
  | 0, _, _, _, _, _, _, _ => none
  | n + 1, a0, v1, v2, v4, v5, v6, h =>
    (getI h (some a0) 8 64).bind fun x26 =>
    if x26 ≤ v6 then
      some h
    else
      (getQ h (some a0) 8 65).bind fun x29 =>
      (getQ h (some a0) 8 62).bind fun x31 =>
      (rdI h x31 10 v6).bind fun x33 =>
      (rdI h x29 10 x33).bind fun x35 =>
      Option.bind ((if x35 < (0 : Int32) then
          (getQ h (some a0) 8 65).bind fun x75 =>
          (getQ h (some a0) 8 62).bind fun x77 =>
          (rdI h x77 10 v6).bind fun x79 =>
          (getQ h (some a0) 8 34).bind fun x81 =>
          (rdI h x81 10 v5).bind fun x83 =>
          (wrI h x75 x79 x83).bind fun h85 =>
          some h85
        else
          (getQ h (some a0) 8 34).bind fun x87 =>
          (rdI h x87 10 v5).bind fun x89 =>
          (getQ h (some a0) 8 65).bind fun x91 =>
          (getQ h (some a0) 8 62).bind fun x93 =>
          (rdI h x93 10 v6).bind fun x95 =>
          (rdI h x91 10 x95).bind fun x97 =>
          if x97 ≤ x89 then
            some h
          else
            (getQ h (some a0) 8 65).bind fun x100 =>
            (getQ h (some a0) 8 62).bind fun x102 =>
            (rdI h x102 10 v6).bind fun x104 =>
            (getQ h (some a0) 8 34).bind fun x106 =>
            (rdI h x106 10 v5).bind fun x108 =>
            (wrI h x100 x104 x108).bind fun h110 =>
            some h110 : Option (Hp))) fun h112 =>
      f_X9_payoutOf_L73 n a0 v1 v2 v4 v5 (v6 + 1) h112
def f_X9_payoutOf_L38 : Nat → Nat → Int32 → Int32 → Int32 → Int32 → Hp → Option ((Hp))
  | 0, _, _, _, _, _, _ => none
  | n + 1, a0, v1, v2, v4, v5, h =>
    (getI h (some a0) 8 41).bind fun x13 =>
    if x13 ≤ v5 then
      some h
    else
      (rc h (some a0) 8).bind fun g18 =>
      b1 (f_X9_counts g18 v5 (5 : Int32) v2 v4 h) fun x20 h16 =>
      Option.bind ((if x20 = (0 : Int32) then
          some h16
        else
          (rc h16 (some a0) 8).bind fun g119 =>
          (f_X9_chainOf g119 v1 v5 h16).bind fun h117 =>
          (f_X9_payoutOf_L73 fu a0 v1 v2 v4 v5 0 h117).bind fun h121 =>
          some h121 : Option (Hp))) fun h124 =>
      f_X9_payoutOf_L38 n a0 v1 v2 v4 (v5 + 1) h124
def f_X9_payoutOf_L161 : Nat → Nat → Int32 → Int64 → Int32 → Hp → Option ((Int64 × Hp))
  | 0, _, _, _, _, _ => none
  | n + 1, a0, v1, v5, v7, h =>
    (getI h (some a0) 8 63).bind fun x129 =>
    if x129 ≤ v7 then
      some (v5, h)
    else
      (getQ h (some a0) 8 65).bind fun x132 =>
      (rdI h x132 10 v7).bind fun x134 =>
      b1 ((if (0 : Int32) ≤ x134 then
          (getQ h (some a0) 8 65).bind fun x154 =>
          (rdI h x154 10 v7).bind fun x156 =>
          (rc h (some a0) 8).bind fun g160 =>
          b1 (f_X9_withInterest g160 v1 v7 x156 h) fun x162 h158 =>
          (getI h158 (some a0) 8 66).bind fun x163 =>
          (getQ h158 (some a0) 8 61).bind fun x165 =>
          (rdI h158 x165 10 v7).bind fun x167 =>
          (putI h158 (some a0) 8 66 (x163 ||| x167)).bind fun h169 =>
          some ((v5 + x162), h169)
        else
          some (v5, h) : Option (Int64 × Hp))) fun w171 h172 =>
      f_X9_payoutOf_L161 n a0 v1 w171 (v7 + 1) h172
def f_X9_payoutOf (a0 : Nat) (v1 : Int32) (v2 : Int32) (v3 : Int32) (v4 : Int32) (h : Hp) : Option (Int64 × Hp) :=
  (rc h (some a0) 8).bind fun g3 =>
  (f_X9_gather g3 v1 v2 v3 v4 h).bind fun h1 =>
  (f_X9_payoutOf_L12 fu a0 v1 v2 v4 0 h1).bind fun h12 =>
  (f_X9_payoutOf_L38 fu a0 v1 v2 v4 0 h12).bind fun h126 =>
  (putI h126 (some a0) 8 66 0).bind fun h127 =>
  b1 (f_X9_payoutOf_L161 fu a0 v1 0 0 h127) fun w174 h175 =>
  some (w174, h175)
set_option maxHeartbeats 4000000 in
theorem tl_X9_payoutOf_12 (E : En) (d : Nat) {mc ms : Nat} {K : Option Vv → Hp → Prop} : ∀ (n : Nat) (a0 : Nat) (v1 : Int32) (v2 : Int32) (v4 : Int32) (v5 : Int32) (h : Hp) (hz : Hp), f_X9_payoutOf_L12 n a0 v1 v2 v4 v5 h = some hz → MW E m_X9_payoutOf (d + 7) mc ms 35 [some (vq (some a0)), some (vi v1), some (vi v2), none, some (vi v4), none, none, none] [] hz K → MW E m_X9_payoutOf (d + 7) mc ms 12 [some (vq (some a0)), some (vi v1), some (vi v2), none, some (vi v4), some (vi v5), none, none] [] h K := by
  intro n
  induction n with
  | zero => intro a0 v1 v2 v4 v5 h hz hf; exact nomatch (show none = some _ from hf)
  | succ n ih =>
    intro a0 v1 v2 v4 v5 h hz hf hX35
    rw [f_X9_payoutOf_L12] at hf
    refine mw_iload (x := v5) dX9_payoutOf_12 rfl ?_
    refine mw_aload_n (x := (some a0)) dX9_payoutOf_14 rfl ?_
    obtain ⟨x5, e6, hf⟩ := ob hf
    refine ml_getI dX9_payoutOf_15 fl_RX9_454 rfl e6 ?_
    refine mw_icmp_ge (tgt := 35) dX9_payoutOf_18 rfl (fun c7 => ?_) (fun c7 => ?_)
    · rw [if_pos c7] at hf
      obtain rfl := y0 hf
      exact MW.sub (subL_s (subL_s (subL_s (subL_n (subL_s (subL_n (subL_n (subL_n subL_nil)))))))) hX35
    · rw [if_neg c7] at hf
      refine mw_aload_n (x := (some a0)) dX9_payoutOf_21 rfl ?_
      obtain ⟨x8, e9, hf⟩ := ob hf
      refine ml_getQ dX9_payoutOf_22 fl_RX9_187 rfl e9 ?_
      refine mw_iload (x := v5) dX9_payoutOf_25 rfl ?_
      refine mw_iconst (v := (-1)) dX9_payoutOf_27 (by decide) ?_
      obtain ⟨h10, e11, hf⟩ := ob hf
      refine ml_iast dX9_payoutOf_28 e11 ?_
      refine mw_iinc (x := v5) (v := v5 + 1) dX9_payoutOf_29 rfl rfl (by decide) rfl ?_
      refine mw_goto (tgt := 12) dX9_payoutOf_32 rfl ?_
      exact MW.sub (subL_s (subL_s (subL_s (subL_n (subL_s (subL_s (subL_n (subL_n subL_nil)))))))) (ih _ _ _ _ _ _ _ hf hX35)
set_option maxHeartbeats 4000000 in
theorem tl_X9_payoutOf_73 (E : En) (d : Nat) {mc ms : Nat} {K : Option Vv → Hp → Prop} : ∀ (n : Nat) (a0 : Nat) (v1 : Int32) (v2 : Int32) (v4 : Int32) (v5 : Int32) (v6 : Int32) (h : Hp) (hz : Hp), f_X9_payoutOf_L73 n a0 v1 v2 v4 v5 v6 h = some hz → MW E m_X9_payoutOf (d + 7) mc ms 144 [some (vq (some a0)), some (vi v1), some (vi v2), none, some (vi v4), some (vi v5), none, none] [] hz K → MW E m_X9_payoutOf (d + 7) mc ms 73 [some (vq (some a0)), some (vi v1), some (vi v2), none, some (vi v4), some (vi v5), some (vi v6), none] [] h K := by
  intro n
  induction n with
  | zero => intro a0 v1 v2 v4 v5 v6 h hz hf; exact nomatch (show none = some _ from hf)
  | succ n ih =>
    intro a0 v1 v2 v4 v5 v6 h hz hf hX144
    rw [f_X9_payoutOf_L73] at hf
    refine mw_iload (x := v6) dX9_payoutOf_73 rfl ?_
    refine mw_aload_n (x := (some a0)) dX9_payoutOf_75 rfl ?_
    obtain ⟨x26, e27, hf⟩ := ob hf
    refine ml_getI dX9_payoutOf_76 fl_RX9_457 rfl e27 ?_
    refine mw_icmp_ge (tgt := 144) dX9_payoutOf_79 rfl (fun c28 => ?_) (fun c28 => ?_)
    · rw [if_pos c28] at hf
      obtain rfl := y0 hf
      exact MW.sub (subL_s (subL_s (subL_s (subL_n (subL_s (subL_s (subL_n (subL_n subL_nil)))))))) hX144
    · rw [if_neg c28] at hf
      refine mw_aload_n (x := (some a0)) dX9_payoutOf_82 rfl ?_
      obtain ⟨x29, e30, hf⟩ := ob hf
      refine ml_getQ dX9_payoutOf_83 fl_RX9_187 rfl e30 ?_
      refine mw_aload_n (x := (some a0)) dX9_payoutOf_86 rfl ?_
      obtain ⟨x31, e32, hf⟩ := ob hf
      refine ml_getQ dX9_payoutOf_87 fl_RX9_184 rfl e32 ?_
      refine mw_iload (x := v6) dX9_payoutOf_90 rfl ?_
      obtain ⟨x33, e34, hf⟩ := ob hf
      refine ml_iald dX9_payoutOf_92 e34 ?_
      obtain ⟨x35, e36, hf⟩ := ob hf
      refine ml_iald dX9_payoutOf_93 e36 ?_
      obtain ⟨h112, r113, hf⟩ := ob hf
      have J182 : MW E m_X9_payoutOf (d + 7) mc ms 138 [some (vq (some a0)), some (vi v1), some (vi v2), none, some (vi v4), some (vi v5), some (vi v6), none] [] h112 K := by
        refine mw_iinc (x := v6) (v := v6 + 1) dX9_payoutOf_138 rfl rfl (by decide) rfl ?_
        refine mw_goto (tgt := 73) dX9_payoutOf_141 rfl ?_
        exact MW.sub (subL_s (subL_s (subL_s (subL_n (subL_s (subL_s (subL_s (subL_n subL_nil)))))))) (ih _ _ _ _ _ _ _ _ hf hX144)
      refine mw_if_lt (tgt := 119) dX9_payoutOf_94 rfl (fun c37 => ?_) (fun c37 => ?_)
      · rw [if_pos c37] at r113
        refine mw_aload_n (x := (some a0)) dX9_payoutOf_119 rfl ?_
        obtain ⟨x75, e76, r113⟩ := ob r113
        refine ml_getQ dX9_payoutOf_120 fl_RX9_187 rfl e76 ?_
        refine mw_aload_n (x := (some a0)) dX9_payoutOf_123 rfl ?_
        obtain ⟨x77, e78, r113⟩ := ob r113
        refine ml_getQ dX9_payoutOf_124 fl_RX9_184 rfl e78 ?_
        refine mw_iload (x := v6) dX9_payoutOf_127 rfl ?_
        obtain ⟨x79, e80, r113⟩ := ob r113
        refine ml_iald dX9_payoutOf_129 e80 ?_
        refine mw_aload_n (x := (some a0)) dX9_payoutOf_130 rfl ?_
        obtain ⟨x81, e82, r113⟩ := ob r113
        refine ml_getQ dX9_payoutOf_131 fl_RX9_129 rfl e82 ?_
        refine mw_iload (x := v5) dX9_payoutOf_134 rfl ?_
        obtain ⟨x83, e84, r113⟩ := ob r113
        refine ml_iald dX9_payoutOf_136 e84 ?_
        obtain ⟨h85, e86, r113⟩ := ob r113
        refine ml_iast dX9_payoutOf_137 e86 ?_
        obtain rfl := y0 r113
        exact MW.sub (subL_s (subL_s (subL_s (subL_n (subL_s (subL_s (subL_s (subL_n subL_nil)))))))) J182
      · rw [if_neg c37] at r113
        refine mw_aload_n (x := (some a0)) dX9_payoutOf_97 rfl ?_
        obtain ⟨x87, e88, r113⟩ := ob r113
        refine ml_getQ dX9_payoutOf_98 fl_RX9_129 rfl e88 ?_
        refine mw_iload (x := v5) dX9_payoutOf_101 rfl ?_
        obtain ⟨x89, e90, r113⟩ := ob r113
        refine ml_iald dX9_payoutOf_103 e90 ?_
        refine mw_aload_n (x := (some a0)) dX9_payoutOf_104 rfl ?_
        obtain ⟨x91, e92, r113⟩ := ob r113
        refine ml_getQ dX9_payoutOf_105 fl_RX9_187 rfl e92 ?_
        refine mw_aload_n (x := (some a0)) dX9_payoutOf_108 rfl ?_
        obtain ⟨x93, e94, r113⟩ := ob r113
        refine ml_getQ dX9_payoutOf_109 fl_RX9_184 rfl e94 ?_
        refine mw_iload (x := v6) dX9_payoutOf_112 rfl ?_
        obtain ⟨x95, e96, r113⟩ := ob r113
        refine ml_iald dX9_payoutOf_114 e96 ?_
        obtain ⟨x97, e98, r113⟩ := ob r113
        refine ml_iald dX9_payoutOf_115 e98 ?_
        refine mw_icmp_ge (tgt := 138) dX9_payoutOf_116 rfl (fun c99 => ?_) (fun c99 => ?_)
        · rw [if_pos c99] at r113
          obtain rfl := y0 r113
          exact MW.sub (subL_s (subL_s (subL_s (subL_n (subL_s (subL_s (subL_s (subL_n subL_nil)))))))) J182
        · rw [if_neg c99] at r113
          refine mw_aload_n (x := (some a0)) dX9_payoutOf_119 rfl ?_
          obtain ⟨x100, e101, r113⟩ := ob r113
          refine ml_getQ dX9_payoutOf_120 fl_RX9_187 rfl e101 ?_
          refine mw_aload_n (x := (some a0)) dX9_payoutOf_123 rfl ?_
          obtain ⟨x102, e103, r113⟩ := ob r113
          refine ml_getQ dX9_payoutOf_124 fl_RX9_184 rfl e103 ?_
          refine mw_iload (x := v6) dX9_payoutOf_127 rfl ?_
          obtain ⟨x104, e105, r113⟩ := ob r113
          refine ml_iald dX9_payoutOf_129 e105 ?_
          refine mw_aload_n (x := (some a0)) dX9_payoutOf_130 rfl ?_
          obtain ⟨x106, e107, r113⟩ := ob r113
          refine ml_getQ dX9_payoutOf_131 fl_RX9_129 rfl e107 ?_
          refine mw_iload (x := v5) dX9_payoutOf_134 rfl ?_
          obtain ⟨x108, e109, r113⟩ := ob r113
          refine ml_iald dX9_payoutOf_136 e109 ?_
          obtain ⟨h110, e111, r113⟩ := ob r113
          refine ml_iast dX9_payoutOf_137 e111 ?_
          obtain rfl := y0 r113
          exact MW.sub (subL_s (subL_s (subL_s (subL_n (subL_s (subL_s (subL_s (subL_n subL_nil)))))))) J182
set_option maxHeartbeats 4000000 in
theorem tl_X9_payoutOf_38 (E : En) (d : Nat) {mc ms : Nat} {K : Option Vv → Hp → Prop} : ∀ (n : Nat) (a0 : Nat) (v1 : Int32) (v2 : Int32) (v4 : Int32) (v5 : Int32) (h : Hp) (hz : Hp), f_X9_payoutOf_L38 n a0 v1 v2 v4 v5 h = some hz → MW E m_X9_payoutOf (d + 7) mc ms 150 [some (vq (some a0)), some (vi v1), none, none, none, none, none, none] [] hz K → MW E m_X9_payoutOf (d + 7) mc ms 38 [some (vq (some a0)), some (vi v1), some (vi v2), none, some (vi v4), some (vi v5), none, none] [] h K := by
  intro n
  induction n with
  | zero => intro a0 v1 v2 v4 v5 h hz hf; exact nomatch (show none = some _ from hf)
  | succ n ih =>
    intro a0 v1 v2 v4 v5 h hz hf hX150
    rw [f_X9_payoutOf_L38] at hf
    refine mw_iload (x := v5) dX9_payoutOf_38 rfl ?_
    refine mw_aload_n (x := (some a0)) dX9_payoutOf_40 rfl ?_
    obtain ⟨x13, e14, hf⟩ := ob hf
    refine ml_getI dX9_payoutOf_41 fl_RX9_340 rfl e14 ?_
    refine mw_icmp_ge (tgt := 150) dX9_payoutOf_44 rfl (fun c15 => ?_) (fun c15 => ?_)
    · rw [if_pos c15] at hf
      obtain rfl := y0 hf
      exact MW.sub (subL_s (subL_s (subL_n (subL_n (subL_n (subL_n (subL_n (subL_n subL_nil)))))))) hX150
    · rw [if_neg c15] at hf
      refine mw_aload_n (x := (some a0)) dX9_payoutOf_47 rfl ?_
      refine mw_iload (x := v5) dX9_payoutOf_48 rfl ?_
      refine mw_iconst (v := 5) dX9_payoutOf_50 (by decide) ?_
      refine mw_iload_n (x := v2) dX9_payoutOf_51 rfl ?_
      refine mw_iload (x := v4) dX9_payoutOf_52 rfl ?_
      obtain ⟨g18, e19, hf⟩ := ob hf
      obtain ⟨x20, h16, e17, hf⟩ := ob1 hf
      refine ml_callV (ci := 8) (mc' := 0) (ms' := 0) [vi v5, vi (5 : Int32), vi v2, vi v4] dX9_payoutOf_54 mk_X9_counts lk_RX9_362 im_X9_counts se_X9_counts (by decide) e19 rfl (Nat.le_of_ble_eq_true rfl) (Nat.le_of_ble_eq_true rfl) (t_X9_counts E _ e17 isR_rfl) ?_
      obtain ⟨h124, r125, hf⟩ := ob hf
      have J183 : MW E m_X9_payoutOf (d + 7) mc ms 144 [some (vq (some a0)), some (vi v1), some (vi v2), none, some (vi v4), some (vi v5), none, none] [] h124 K := by
        refine mw_iinc (x := v5) (v := v5 + 1) dX9_payoutOf_144 rfl rfl (by decide) rfl ?_
        refine mw_goto (tgt := 38) dX9_payoutOf_147 rfl ?_
        exact MW.sub (subL_s (subL_s (subL_s (subL_n (subL_s (subL_s (subL_n (subL_n subL_nil)))))))) (ih _ _ _ _ _ _ _ hf hX150)
      refine mw_if_ne (tgt := 63) dX9_payoutOf_57 rfl (fun c21 => ?_) (fun c21 => ?_)
      · rw [if_neg c21] at r125
        refine mw_aload_n (x := (some a0)) dX9_payoutOf_63 rfl ?_
        refine mw_iload_n (x := v1) dX9_payoutOf_64 rfl ?_
        refine mw_iload (x := v5) dX9_payoutOf_65 rfl ?_
        obtain ⟨g119, e120, r125⟩ := ob r125
        obtain ⟨h117, e118, r125⟩ := ob r125
        refine ml_callV (ci := 8) (mc' := 0) (ms' := 0) [vi v1, vi v5] dX9_payoutOf_67 mk_X9_chainOf lk_RX9_463 im_X9_chainOf se_X9_chainOf (by decide) e120 rfl (Nat.le_of_ble_eq_true rfl) (Nat.le_of_ble_eq_true rfl) (t_X9_chainOf E _ e118 isR_rfl) ?_
        refine mw_iconst (v := 0) dX9_payoutOf_70 (by decide) ?_
        refine mw_istore dX9_payoutOf_71 (by decide) rfl ?_
        obtain ⟨h121, e122, r125⟩ := ob r125
        refine MW.sub (subL_s (subL_s (subL_s (subL_n (subL_s (subL_s (subL_s (subL_n subL_nil)))))))) (tl_X9_payoutOf_73 E d _ _ _ _ _ _ _ _ _ e122 ?_)
        obtain rfl := y0 r125
        exact MW.sub (subL_s (subL_s (subL_s (subL_n (subL_s (subL_s (subL_n (subL_n subL_nil)))))))) J183
      · rw [if_pos c21] at r125
        refine mw_goto (tgt := 144) dX9_payoutOf_60 rfl ?_
        obtain rfl := y0 r125
        exact MW.sub (subL_s (subL_s (subL_s (subL_n (subL_s (subL_s (subL_n (subL_n subL_nil)))))))) J183
set_option maxHeartbeats 4000000 in
theorem tl_X9_payoutOf_161 (E : En) (d : Nat) {mc ms : Nat} {K : Option Vv → Hp → Prop} : ∀ (n : Nat) (a0 : Nat) (v1 : Int32) (v5 : Int64) (v7 : Int32) (h : Hp) (u5 : Int64) (hz : Hp), f_X9_payoutOf_L161 n a0 v1 v5 v7 h = some (u5, hz) → MW E m_X9_payoutOf (d + 7) mc ms 224 [none, none, none, none, none, some (vl u5), none, none] [] hz K → MW E m_X9_payoutOf (d + 7) mc ms 161 [some (vq (some a0)), some (vi v1), none, none, none, some (vl v5), none, some (vi v7)] [] h K := by
  intro n
  induction n with
  | zero => intro a0 v1 v5 v7 h u5 hz hf; exact nomatch (show none = some _ from hf)
  | succ n ih =>
    intro a0 v1 v5 v7 h u5 hz hf hX224
    rw [f_X9_payoutOf_L161] at hf
    refine mw_iload (x := v7) dX9_payoutOf_161 rfl ?_
    refine mw_aload_n (x := (some a0)) dX9_payoutOf_163 rfl ?_
    obtain ⟨x129, e130, hf⟩ := ob hf
    refine ml_getI dX9_payoutOf_164 fl_RX9_454 rfl e130 ?_
    refine mw_icmp_ge (tgt := 224) dX9_payoutOf_167 rfl (fun c131 => ?_) (fun c131 => ?_)
    · rw [if_pos c131] at hf
      obtain ⟨rfl, rfl⟩ := y1 hf
      exact MW.sub (subL_n (subL_n (subL_n (subL_n (subL_n (subL_s (subL_n (subL_n subL_nil)))))))) hX224
    · rw [if_neg c131] at hf
      refine mw_aload_n (x := (some a0)) dX9_payoutOf_170 rfl ?_
      obtain ⟨x132, e133, hf⟩ := ob hf
      refine ml_getQ dX9_payoutOf_171 fl_RX9_187 rfl e133 ?_
      refine mw_iload (x := v7) dX9_payoutOf_174 rfl ?_
      obtain ⟨x134, e135, hf⟩ := ob hf
      refine ml_iald dX9_payoutOf_176 e135 ?_
      obtain ⟨w171, h172, r173, hf⟩ := ob1 hf
      have J184 : MW E m_X9_payoutOf (d + 7) mc ms 218 [some (vq (some a0)), some (vi v1), none, none, none, some (vl w171), none, some (vi v7)] [] h172 K := by
        refine mw_iinc (x := v7) (v := v7 + 1) dX9_payoutOf_218 rfl rfl (by decide) rfl ?_
        refine mw_goto (tgt := 161) dX9_payoutOf_221 rfl ?_
        exact MW.sub (subL_s (subL_s (subL_n (subL_n (subL_n (subL_s (subL_n (subL_s subL_nil)))))))) (ih _ _ _ _ _ _ _ hf hX224)
      refine mw_if_ge (tgt := 183) dX9_payoutOf_177 rfl (fun c136 => ?_) (fun c136 => ?_)
      · rw [if_pos c136] at r173
        refine mw_lload (x := v5) dX9_payoutOf_183 rfl ?_
        refine mw_aload_n (x := (some a0)) dX9_payoutOf_185 rfl ?_
        refine mw_iload_n (x := v1) dX9_payoutOf_186 rfl ?_
        refine mw_iload (x := v7) dX9_payoutOf_187 rfl ?_
        refine mw_aload_n (x := (some a0)) dX9_payoutOf_189 rfl ?_
        obtain ⟨x154, e155, r173⟩ := ob r173
        refine ml_getQ dX9_payoutOf_190 fl_RX9_187 rfl e155 ?_
        refine mw_iload (x := v7) dX9_payoutOf_193 rfl ?_
        obtain ⟨x156, e157, r173⟩ := ob r173
        refine ml_iald dX9_payoutOf_195 e157 ?_
        obtain ⟨g160, e161, r173⟩ := ob r173
        obtain ⟨x162, h158, e159, r173⟩ := ob1 r173
        refine ml_callV (ci := 8) (mc' := 0) (ms' := 0) [vi v1, vi v7, vi x156] dX9_payoutOf_196 mk_X9_withInterest lk_RX9_474 im_X9_withInterest se_X9_withInterest (by decide) e161 rfl (Nat.le_of_ble_eq_true rfl) (Nat.le_of_ble_eq_true rfl) (t_X9_withInterest E _ e159 isR_rfl) ?_
        refine mw_ladd dX9_payoutOf_199 ?_
        refine mw_lstore dX9_payoutOf_200 (by decide) rfl ?_
        refine mw_aload_n (x := (some a0)) dX9_payoutOf_202 rfl ?_
        refine mw_dupq dX9_payoutOf_203 ?_
        obtain ⟨x163, e164, r173⟩ := ob r173
        refine ml_getI dX9_payoutOf_204 fl_RX9_477 rfl e164 ?_
        refine mw_aload_n (x := (some a0)) dX9_payoutOf_207 rfl ?_
        obtain ⟨x165, e166, r173⟩ := ob r173
        refine ml_getQ dX9_payoutOf_208 fl_RX9_181 rfl e166 ?_
        refine mw_iload (x := v7) dX9_payoutOf_211 rfl ?_
        obtain ⟨x167, e168, r173⟩ := ob r173
        refine ml_iald dX9_payoutOf_213 e168 ?_
        refine mw_ior dX9_payoutOf_214 ?_
        obtain ⟨h169, e170, r173⟩ := ob r173
        refine ml_putI dX9_payoutOf_215 fl_RX9_477 (Or.inl rfl) rfl rfl e170 ?_
        obtain ⟨rfl, rfl⟩ := y1 r173
        exact MW.sub (subL_s (subL_s (subL_n (subL_n (subL_n (subL_s (subL_n (subL_s subL_nil)))))))) J184
      · rw [if_neg c136] at r173
        refine mw_goto (tgt := 218) dX9_payoutOf_180 rfl ?_
        obtain ⟨rfl, rfl⟩ := y1 r173
        exact MW.sub (subL_s (subL_s (subL_n (subL_n (subL_n (subL_s (subL_n (subL_s subL_nil)))))))) J184
set_option maxHeartbeats 4000000 in
theorem t_X9_payoutOf (E : En) (d : Nat) {mc ms : Nat} {a0 : Nat} {v1 : Int32} {v2 : Int32} {v3 : Int32} {v4 : Int32} {h h' : Hp} {r : Int64} {K : Option Vv → Hp → Prop} (hf : f_X9_payoutOf a0 v1 v2 v3 v4 h = some (r, h')) (hk : K (some (vl r)) h') : MC E m_X9_payoutOf (d + 7) mc ms [vq (some a0), vi v1, vi v2, vi v3, vi v4] h K := by
  unfold f_X9_payoutOf at hf
  show MW E m_X9_payoutOf (d + 7) mc ms 0 [some (vq (some a0)), some (vi v1), some (vi v2), some (vi v3), some (vi v4), none, none, none] [] h K
  refine mw_aload_n (x := (some a0)) dX9_payoutOf_0 rfl ?_
  refine mw_iload_n (x := v1) dX9_payoutOf_1 rfl ?_
  refine mw_iload_n (x := v2) dX9_payoutOf_2 rfl ?_
  refine mw_iload_n (x := v3) dX9_payoutOf_3 rfl ?_
  refine mw_iload (x := v4) dX9_payoutOf_4 rfl ?_
  obtain ⟨g3, e4, hf⟩ := ob hf
  obtain ⟨h1, e2, hf⟩ := ob hf
  refine ml_callV (ci := 8) (mc' := 0) (ms' := 0) [vi v1, vi v2, vi v3, vi v4] dX9_payoutOf_6 mk_X9_gather lk_RX9_460 im_X9_gather se_X9_gather (by decide) e4 rfl (Nat.le_of_ble_eq_true rfl) (Nat.le_of_ble_eq_true rfl) (t_X9_gather E _ e2 isR_rfl) ?_
  refine mw_iconst (v := 0) dX9_payoutOf_9 (by decide) ?_
  refine mw_istore dX9_payoutOf_10 (by decide) rfl ?_
  obtain ⟨h12, e180, hf⟩ := ob hf
  refine MW.sub (subL_s (subL_s (subL_s (subL_n (subL_s (subL_s (subL_n (subL_n subL_nil)))))))) (tl_X9_payoutOf_12 E d _ _ _ _ _ _ _ _ e180 ?_)
  refine mw_iconst (v := 0) dX9_payoutOf_35 (by decide) ?_
  refine mw_istore dX9_payoutOf_36 (by decide) rfl ?_
  obtain ⟨h126, e178, hf⟩ := ob hf
  refine MW.sub (subL_s (subL_s (subL_s (subL_n (subL_s (subL_s (subL_n (subL_n subL_nil)))))))) (tl_X9_payoutOf_38 E d _ _ _ _ _ _ _ _ e178 ?_)
  refine mw_lconst (v := 0) dX9_payoutOf_150 (by decide) ?_
  refine mw_lstore dX9_payoutOf_151 (by decide) rfl ?_
  refine mw_aload_n (x := (some a0)) dX9_payoutOf_153 rfl ?_
  refine mw_iconst (v := 0) dX9_payoutOf_154 (by decide) ?_
  obtain ⟨h127, e128, hf⟩ := ob hf
  refine ml_putI dX9_payoutOf_155 fl_RX9_477 (Or.inl rfl) rfl rfl e128 ?_
  refine mw_iconst (v := 0) dX9_payoutOf_158 (by decide) ?_
  refine mw_istore dX9_payoutOf_159 (by decide) rfl ?_
  obtain ⟨w174, h175, e176, hf⟩ := ob1 hf
  refine MW.sub (subL_s (subL_s (subL_n (subL_n (subL_n (subL_s (subL_n (subL_s subL_nil)))))))) (tl_X9_payoutOf_161 E d _ _ _ _ _ _ _ _ e176 ?_)
  refine mw_lload (x := w174) dX9_payoutOf_224 rfl ?_
  obtain ⟨rfl, rfl⟩ := y1 hf
  exact mw_lreturn dX9_payoutOf_226 rfl hk
def f_X9_allOf_L6 : Nat → Nat → Int32 → Int32 → Int32 → Int64 → Int32 → Hp → Option ((Int64 × Hp))
  | 0, _, _, _, _, _, _, _ => none
  | n + 1, a0, v1, v2, v3, v4, v6, h =>
    (getI h (some a0) 8 40).bind fun x1 =>
    if x1 ≤ v6 then
      some (v4, h)
    else
      (rc h (some a0) 8).bind fun g6 =>
      b1 (f_X9_payoutOf g6 v1 v6 v2 v3 h) fun x8 h4 =>
      f_X9_allOf_L6 n a0 v1 v2 v3 (v4 + x8) (v6 + 1) h4
def f_X9_allOf (a0 : Nat) (v1 : Int32) (v2 : Int32) (v3 : Int32) (h : Hp) : Option (Int64 × Hp) :=
  b1 (f_X9_allOf_L6 fu a0 v1 v2 v3 0 0 h) fun w9 h10 =>
  some (w9, h10)
set_option maxHeartbeats 4000000 in
theorem tl_X9_allOf_6 (E : En) (d : Nat) {mc ms : Nat} {K : Option Vv → Hp → Prop} : ∀ (n : Nat) (a0 : Nat) (v1 : Int32) (v2 : Int32) (v3 : Int32) (v4 : Int64) (v6 : Int32) (h : Hp) (u4 : Int64) (hz : Hp), f_X9_allOf_L6 n a0 v1 v2 v3 v4 v6 h = some (u4, hz) → MW E m_X9_allOf (d + 8) mc ms 35 [none, none, none, none, some (vl u4), none, none] [] hz K → MW E m_X9_allOf (d + 8) mc ms 6 [some (vq (some a0)), some (vi v1), some (vi v2), some (vi v3), some (vl v4), none, some (vi v6)] [] h K := by
  intro n
  induction n with
  | zero => intro a0 v1 v2 v3 v4 v6 h u4 hz hf; exact nomatch (show none = some _ from hf)
  | succ n ih =>
    intro a0 v1 v2 v3 v4 v6 h u4 hz hf hX35
    rw [f_X9_allOf_L6] at hf
    refine mw_iload (x := v6) dX9_allOf_6 rfl ?_
    refine mw_aload_n (x := (some a0)) dX9_allOf_8 rfl ?_
    obtain ⟨x1, e2, hf⟩ := ob hf
    refine ml_getI dX9_allOf_9 fl_RX9_337 rfl e2 ?_
    refine mw_icmp_ge (tgt := 35) dX9_allOf_12 rfl (fun c3 => ?_) (fun c3 => ?_)
    · rw [if_pos c3] at hf
      obtain ⟨rfl, rfl⟩ := y1 hf
      exact MW.sub (subL_n (subL_n (subL_n (subL_n (subL_s (subL_n (subL_n subL_nil))))))) hX35
    · rw [if_neg c3] at hf
      refine mw_lload (x := v4) dX9_allOf_15 rfl ?_
      refine mw_aload_n (x := (some a0)) dX9_allOf_17 rfl ?_
      refine mw_iload_n (x := v1) dX9_allOf_18 rfl ?_
      refine mw_iload (x := v6) dX9_allOf_19 rfl ?_
      refine mw_iload_n (x := v2) dX9_allOf_21 rfl ?_
      refine mw_iload_n (x := v3) dX9_allOf_22 rfl ?_
      obtain ⟨g6, e7, hf⟩ := ob hf
      obtain ⟨x8, h4, e5, hf⟩ := ob1 hf
      refine ml_callV (ci := 8) (mc' := 0) (ms' := 0) [vi v1, vi v6, vi v2, vi v3] dX9_allOf_23 mk_X9_payoutOf lk_RX9_480 im_X9_payoutOf se_X9_payoutOf (by decide) e7 rfl (Nat.le_of_ble_eq_true rfl) (Nat.le_of_ble_eq_true rfl) (t_X9_payoutOf E _ e5 isR_rfl) ?_
      refine mw_ladd dX9_allOf_26 ?_
      refine mw_lstore dX9_allOf_27 (by decide) rfl ?_
      refine mw_iinc (x := v6) (v := v6 + 1) dX9_allOf_29 rfl rfl (by decide) rfl ?_
      refine mw_goto (tgt := 6) dX9_allOf_32 rfl ?_
      exact MW.sub (subL_s (subL_s (subL_s (subL_s (subL_s (subL_n (subL_s subL_nil))))))) (ih _ _ _ _ _ _ _ _ _ hf hX35)
set_option maxHeartbeats 4000000 in
theorem t_X9_allOf (E : En) (d : Nat) {mc ms : Nat} {a0 : Nat} {v1 : Int32} {v2 : Int32} {v3 : Int32} {h h' : Hp} {r : Int64} {K : Option Vv → Hp → Prop} (hf : f_X9_allOf a0 v1 v2 v3 h = some (r, h')) (hk : K (some (vl r)) h') : MC E m_X9_allOf (d + 8) mc ms [vq (some a0), vi v1, vi v2, vi v3] h K := by
  unfold f_X9_allOf at hf
  show MW E m_X9_allOf (d + 8) mc ms 0 [some (vq (some a0)), some (vi v1), some (vi v2), some (vi v3), none, none, none] [] h K
  refine mw_lconst (v := 0) dX9_allOf_0 (by decide) ?_
  refine mw_lstore dX9_allOf_1 (by decide) rfl ?_
  refine mw_iconst (v := 0) dX9_allOf_3 (by decide) ?_
  refine mw_istore dX9_allOf_4 (by decide) rfl ?_
  obtain ⟨w9, h10, e11, hf⟩ := ob1 hf
  refine MW.sub (subL_s (subL_s (subL_s (subL_s (subL_s (subL_n (subL_s subL_nil))))))) (tl_X9_allOf_6 E d _ _ _ _ _ _ _ _ _ _ e11 ?_)
  refine mw_lload (x := w9) dX9_allOf_35 rfl ?_
  obtain ⟨rfl, rfl⟩ := y1 hf
  exact mw_lreturn dX9_allOf_37 rfl hk
def f_X9_isOf (a0 : Nat) (v1 : Int32) (v2 : Int32) (h : Hp) : Option (Int32 × Hp) :=
  b1 ((if v1 < (0 : Int32) then
      some (0, h)
    else
      (getI h (some a0) 8 41).bind fun x10 =>
      if x10 ≤ v1 then
        some (0, h)
      else
        (getQ h (some a0) 8 32).bind fun x13 =>
        (rdI h x13 10 v1).bind fun x15 =>
        if x15 = v2 then
          some (1, h)
        else
          some (0, h) : Option (Int32 × Hp))) fun w18 h19 =>
  (zok w18).bind fun z21 =>
  some (w18, h19)
set_option maxHeartbeats 4000000 in
theorem t_X9_isOf (E : En) (d : Nat) {mc ms : Nat} {a0 : Nat} {v1 : Int32} {v2 : Int32} {h h' : Hp} {r : Int32} {K : Option Vv → Hp → Prop} (hf : f_X9_isOf a0 v1 v2 h = some (r, h')) (hk : K (some (vi r)) h') : MC E m_X9_isOf (d + 0) mc ms [vq (some a0), vi v1, vi v2] h K := by
  unfold f_X9_isOf at hf
  show MW E m_X9_isOf (d + 0) mc ms 0 [some (vq (some a0)), some (vi v1), some (vi v2)] [] h K
  refine mw_iload_n (x := v1) dX9_isOf_0 rfl ?_
  obtain ⟨w18, h19, r20, hf⟩ := ob1 hf
  have J23 : MW E m_X9_isOf (d + 0) mc ms 27 [none, none, none] [vi w18] h19 K := by
    obtain ⟨z21, e22, hf⟩ := ob hf
    obtain ⟨rfl, rfl⟩ := y1 hf
    exact mw_ireturn dX9_isOf_27 rfl (zok_of e22) hk
  refine mw_if_lt (tgt := 26) dX9_isOf_1 rfl (fun c1 => ?_) (fun c1 => ?_)
  · rw [if_pos c1] at r20
    refine mw_iconst (v := 0) dX9_isOf_26 (by decide) ?_
    obtain ⟨rfl, rfl⟩ := y1 r20
    exact MW.sub (subL_n (subL_n (subL_n subL_nil))) J23
  · rw [if_neg c1] at r20
    refine mw_iload_n (x := v1) dX9_isOf_4 rfl ?_
    refine mw_aload_n (x := (some a0)) dX9_isOf_5 rfl ?_
    obtain ⟨x10, e11, r20⟩ := ob r20
    refine ml_getI dX9_isOf_6 fl_RX9_340 rfl e11 ?_
    refine mw_icmp_ge (tgt := 26) dX9_isOf_9 rfl (fun c12 => ?_) (fun c12 => ?_)
    · rw [if_pos c12] at r20
      refine mw_iconst (v := 0) dX9_isOf_26 (by decide) ?_
      obtain ⟨rfl, rfl⟩ := y1 r20
      exact MW.sub (subL_n (subL_n (subL_n subL_nil))) J23
    · rw [if_neg c12] at r20
      refine mw_aload_n (x := (some a0)) dX9_isOf_12 rfl ?_
      obtain ⟨x13, e14, r20⟩ := ob r20
      refine ml_getQ dX9_isOf_13 fl_RX9_123 rfl e14 ?_
      refine mw_iload_n (x := v1) dX9_isOf_16 rfl ?_
      obtain ⟨x15, e16, r20⟩ := ob r20
      refine ml_iald dX9_isOf_17 e16 ?_
      refine mw_iload_n (x := v2) dX9_isOf_18 rfl ?_
      refine mw_icmp_ne (tgt := 26) dX9_isOf_19 rfl (fun c17 => ?_) (fun c17 => ?_)
      · rw [if_neg c17] at r20
        refine mw_iconst (v := 0) dX9_isOf_26 (by decide) ?_
        obtain ⟨rfl, rfl⟩ := y1 r20
        exact MW.sub (subL_n (subL_n (subL_n subL_nil))) J23
      · rw [if_pos c17] at r20
        refine mw_iconst (v := 1) dX9_isOf_22 (by decide) ?_
        refine mw_goto (tgt := 27) dX9_isOf_23 rfl ?_
        obtain ⟨rfl, rfl⟩ := y1 r20
        exact MW.sub (subL_n (subL_n (subL_n subL_nil))) J23
def f_X9_average (a0 : Nat) (v1 : Int32) (v2 : Int32) (v3 : Int32) (v4 : Int32) (h : Hp) : Option (Int32 × Hp) :=
  b1 (f_X9_isShelf v1 h) fun x3 h1 =>
  if x3 = (0 : Int32) then
    some ((-1), h1)
  else
    (rc h1 (some a0) 8).bind fun g7 =>
    b1 (f_X9_isOf g7 v2 (3 : Int32) h1) fun x9 h5 =>
    if x9 = (0 : Int32) then
      some ((-1), h5)
    else
      (getQ h5 (some a0) 8 33).bind fun x11 =>
      (rdI h5 x11 10 v2).bind fun x13 =>
      (rc h5 (some a0) 8).bind fun g17 =>
      (f_X9_reckon g17 v1 x13 v3 v4 h5).bind fun h15 =>
      (rc h15 (some a0) 8).bind fun g21 =>
      (f_X9_averageOf g21 v1 v2 h15).bind fun h19 =>
      (getI h19 (some a0) 8 56).bind fun x23 =>
      some (x23, h19)
set_option maxHeartbeats 4000000 in
theorem t_X9_average (E : En) (d : Nat) {mc ms : Nat} {a0 : Nat} {v1 : Int32} {v2 : Int32} {v3 : Int32} {v4 : Int32} {h h' : Hp} {r : Int32} {K : Option Vv → Hp → Prop} (hf : f_X9_average a0 v1 v2 v3 v4 h = some (r, h')) (hk : K (some (vi r)) h') : MC E m_X9_average (d + 6) mc ms [vq (some a0), vi v1, vi v2, vi v3, vi v4] h K := by
  unfold f_X9_average at hf
  show MW E m_X9_average (d + 6) mc ms 0 [some (vq (some a0)), some (vi v1), some (vi v2), some (vi v3), some (vi v4)] [] h K
  refine mw_iload_n (x := v1) dX9_average_0 rfl ?_
  obtain ⟨x3, h1, e2, hf⟩ := ob1 hf
  refine ml_callS (mc' := 0) (ms' := 0) [vi v1] dX9_average_1 mk_X9_isShelf lk_RX9_200 st_X9_isShelf rfl (Nat.le_of_ble_eq_true rfl) (Nat.le_of_ble_eq_true rfl) (t_X9_isShelf E _ e2 isR_rfl) ?_
  refine mw_if_eq (tgt := 16) dX9_average_4 rfl (fun c4 => ?_) (fun c4 => ?_)
  · rw [if_pos c4] at hf
    refine mw_iconst (v := (-1)) dX9_average_16 (by decide) ?_
    obtain ⟨rfl, rfl⟩ := y1 hf
    exact mw_ireturn dX9_average_17 rfl rfl hk
  · rw [if_neg c4] at hf
    refine mw_aload_n (x := (some a0)) dX9_average_7 rfl ?_
    refine mw_iload_n (x := v2) dX9_average_8 rfl ?_
    refine mw_iconst (v := 3) dX9_average_9 (by decide) ?_
    obtain ⟨g7, e8, hf⟩ := ob hf
    obtain ⟨x9, h5, e6, hf⟩ := ob1 hf
    refine ml_callV (ci := 8) (mc' := 0) (ms' := 0) [vi v2, vi (3 : Int32)] dX9_average_10 mk_X9_isOf lk_RX9_445 im_X9_isOf se_X9_isOf (by decide) e8 rfl (Nat.le_of_ble_eq_true rfl) (Nat.le_of_ble_eq_true rfl) (t_X9_isOf E _ e6 isR_rfl) ?_
    refine mw_if_ne (tgt := 18) dX9_average_13 rfl (fun c10 => ?_) (fun c10 => ?_)
    · rw [if_neg c10] at hf
      refine mw_aload_n (x := (some a0)) dX9_average_18 rfl ?_
      refine mw_iload_n (x := v1) dX9_average_19 rfl ?_
      refine mw_aload_n (x := (some a0)) dX9_average_20 rfl ?_
      obtain ⟨x11, e12, hf⟩ := ob hf
      refine ml_getQ dX9_average_21 fl_RX9_126 rfl e12 ?_
      refine mw_iload_n (x := v2) dX9_average_24 rfl ?_
      obtain ⟨x13, e14, hf⟩ := ob hf
      refine ml_iald dX9_average_25 e14 ?_
      refine mw_iload_n (x := v3) dX9_average_26 rfl ?_
      refine mw_iload (x := v4) dX9_average_27 rfl ?_
      obtain ⟨g17, e18, hf⟩ := ob hf
      obtain ⟨h15, e16, hf⟩ := ob hf
      refine ml_callV (ci := 8) (mc' := 0) (ms' := 0) [vi v1, vi x13, vi v3, vi v4] dX9_average_29 mk_X9_reckon lk_RX9_425 im_X9_reckon se_X9_reckon (by decide) e18 rfl (Nat.le_of_ble_eq_true rfl) (Nat.le_of_ble_eq_true rfl) (t_X9_reckon E _ e16 isR_rfl) ?_
      refine mw_aload_n (x := (some a0)) dX9_average_32 rfl ?_
      refine mw_iload_n (x := v1) dX9_average_33 rfl ?_
      refine mw_iload_n (x := v2) dX9_average_34 rfl ?_
      obtain ⟨g21, e22, hf⟩ := ob hf
      obtain ⟨h19, e20, hf⟩ := ob hf
      refine ml_callV (ci := 8) (mc' := 0) (ms' := 0) [vi v1, vi v2] dX9_average_35 mk_X9_averageOf lk_RX9_438 im_X9_averageOf se_X9_averageOf (by decide) e22 rfl (Nat.le_of_ble_eq_true rfl) (Nat.le_of_ble_eq_true rfl) (t_X9_averageOf E _ e20 isR_rfl) ?_
      refine mw_aload_n (x := (some a0)) dX9_average_38 rfl ?_
      obtain ⟨x23, e24, hf⟩ := ob hf
      refine ml_getI dX9_average_39 fl_RX9_435 rfl e24 ?_
      obtain ⟨rfl, rfl⟩ := y1 hf
      exact mw_ireturn dX9_average_42 rfl rfl hk
    · rw [if_pos c10] at hf
      refine mw_iconst (v := (-1)) dX9_average_16 (by decide) ?_
      obtain ⟨rfl, rfl⟩ := y1 hf
      exact mw_ireturn dX9_average_17 rfl rfl hk
def f_X9_isWorker (a0 : Nat) (v1 : Int32) (h : Hp) : Option (Int32 × Hp) :=
  (getI h (some a0) 8 40).bind fun x1 =>
  b1 (f_X9_isIn v1 (0 : Int32) (x1 - (1 : Int32)) h) fun x5 h3 =>
  (zok x5).bind fun z6 =>
  some (x5, h3)
set_option maxHeartbeats 4000000 in
theorem t_X9_isWorker (E : En) (d : Nat) {mc ms : Nat} {a0 : Nat} {v1 : Int32} {h h' : Hp} {r : Int32} {K : Option Vv → Hp → Prop} (hf : f_X9_isWorker a0 v1 h = some (r, h')) (hk : K (some (vi r)) h') : MC E m_X9_isWorker (d + 1) mc ms [vq (some a0), vi v1] h K := by
  unfold f_X9_isWorker at hf
  show MW E m_X9_isWorker (d + 1) mc ms 0 [some (vq (some a0)), some (vi v1)] [] h K
  refine mw_iload_n (x := v1) dX9_isWorker_0 rfl ?_
  refine mw_iconst (v := 0) dX9_isWorker_1 (by decide) ?_
  refine mw_aload_n (x := (some a0)) dX9_isWorker_2 rfl ?_
  obtain ⟨x1, e2, hf⟩ := ob hf
  refine ml_getI dX9_isWorker_3 fl_RX9_337 rfl e2 ?_
  refine mw_iconst (v := 1) dX9_isWorker_6 (by decide) ?_
  refine mw_isub dX9_isWorker_7 ?_
  obtain ⟨x5, h3, e4, hf⟩ := ob1 hf
  refine ml_callS (mc' := 0) (ms' := 0) [vi v1, vi (0 : Int32), vi (x1 - (1 : Int32))] dX9_isWorker_8 mk_X9_isIn lk_RX9_333 st_X9_isIn rfl (Nat.le_of_ble_eq_true rfl) (Nat.le_of_ble_eq_true rfl) (t_X9_isIn E _ e4 isR_rfl) ?_
  obtain ⟨z6, e7, hf⟩ := ob hf
  obtain ⟨rfl, rfl⟩ := y1 hf
  exact mw_ireturn dX9_isWorker_11 rfl (zok_of e7) hk
def f_X9_isWeek (v0 : Int32) (h : Hp) : Option (Int32 × Hp) :=
  b1 (f_X9_isIn v0 (0 : Int32) (103 : Int32) h) fun x3 h1 =>
  (zok x3).bind fun z4 =>
  some (x3, h1)
set_option maxHeartbeats 4000000 in
theorem t_X9_isWeek (E : En) (d : Nat) {mc ms : Nat} {v0 : Int32} {h h' : Hp} {r : Int32} {K : Option Vv → Hp → Prop} (hf : f_X9_isWeek v0 h = some (r, h')) (hk : K (some (vi r)) h') : MC E m_X9_isWeek (d + 1) mc ms [vi v0] h K := by
  unfold f_X9_isWeek at hf
  show MW E m_X9_isWeek (d + 1) mc ms 0 [some (vi v0)] [] h K
  refine mw_iload_n (x := v0) dX9_isWeek_0 rfl ?_
  refine mw_iconst (v := 0) dX9_isWeek_1 (by decide) ?_
  refine mw_bipush (v := 103) dX9_isWeek_2 (by decide) ?_
  obtain ⟨x3, h1, e2, hf⟩ := ob1 hf
  refine ml_callS (mc' := 0) (ms' := 0) [vi v0, vi (0 : Int32), vi (103 : Int32)] dX9_isWeek_4 mk_X9_isIn lk_RX9_333 st_X9_isIn rfl (Nat.le_of_ble_eq_true rfl) (Nat.le_of_ble_eq_true rfl) (t_X9_isIn E _ e2 isR_rfl) ?_
  obtain ⟨z4, e5, hf⟩ := ob hf
  obtain ⟨rfl, rfl⟩ := y1 hf
  exact mw_ireturn dX9_isWeek_7 rfl (zok_of e5) hk
def f_X9_fact (a0 : Nat) (v1 : Int32) (v2 : Int32) (v3 : Int32) (v4 : Int32) (v5 : Int32) (h : Hp) : Option (Int32 × Hp) :=
  (getI h (some a0) 8 41).bind fun x1 =>
  if x1 = (250 : Int32) then
    some ((-1), h)
  else
    (getQ h (some a0) 8 32).bind fun x4 =>
    (getI h (some a0) 8 41).bind fun x6 =>
    (wrI h x4 x6 v1).bind fun h8 =>
    (getQ h8 (some a0) 8 33).bind fun x10 =>
    (getI h8 (some a0) 8 41).bind fun x12 =>
    (wrI h8 x10 x12 v2).bind fun h14 =>
    (getQ h14 (some a0) 8 34).bind fun x16 =>
    (getI h14 (some a0) 8 41).bind fun x18 =>
    (wrI h14 x16 x18 v3).bind fun h20 =>
    (getQ h20 (some a0) 8 35).bind fun x22 =>
    (getI h20 (some a0) 8 41).bind fun x24 =>
    (wrI h20 x22 x24 v4).bind fun h26 =>
    (getQ h26 (some a0) 8 36).bind fun x28 =>
    (getI h26 (some a0) 8 41).bind fun x30 =>
    (wrI h26 x28 x30 v5).bind fun h32 =>
    (getQ h32 (some a0) 8 37).bind fun x34 =>
    (getI h32 (some a0) 8 41).bind fun x36 =>
    (getI h32 (some a0) 8 42).bind fun x38 =>
    (wrI h32 x34 x36 x38).bind fun h40 =>
    (getQ h40 (some a0) 8 38).bind fun x42 =>
    (getI h40 (some a0) 8 41).bind fun x44 =>
    (wrI h40 x42 x44 (-1)).bind fun h46 =>
    (getI h46 (some a0) 8 41).bind fun x48 =>
    (putI h46 (some a0) 8 41 (x48 + (1 : Int32))).bind fun h50 =>
    (getI h50 (some a0) 8 41).bind fun x52 =>
    some ((x52 - (1 : Int32)), h50)
set_option maxHeartbeats 4000000 in
theorem t_X9_fact (E : En) (d : Nat) {mc ms : Nat} {a0 : Nat} {v1 : Int32} {v2 : Int32} {v3 : Int32} {v4 : Int32} {v5 : Int32} {h h' : Hp} {r : Int32} {K : Option Vv → Hp → Prop} (hf : f_X9_fact a0 v1 v2 v3 v4 v5 h = some (r, h')) (hk : K (some (vi r)) h') : MC E m_X9_fact (d + 0) mc ms [vq (some a0), vi v1, vi v2, vi v3, vi v4, vi v5] h K := by
  unfold f_X9_fact at hf
  show MW E m_X9_fact (d + 0) mc ms 0 [some (vq (some a0)), some (vi v1), some (vi v2), some (vi v3), some (vi v4), some (vi v5)] [] h K
  refine mw_aload_n (x := (some a0)) dX9_fact_0 rfl ?_
  obtain ⟨x1, e2, hf⟩ := ob hf
  refine ml_getI dX9_fact_1 fl_RX9_340 rfl e2 ?_
  refine mw_sipush (v := 250) dX9_fact_4 (by decide) ?_
  refine mw_icmp_ne (tgt := 12) dX9_fact_7 rfl (fun c3 => ?_) (fun c3 => ?_)
  · rw [if_neg c3] at hf
    refine mw_aload_n (x := (some a0)) dX9_fact_12 rfl ?_
    obtain ⟨x4, e5, hf⟩ := ob hf
    refine ml_getQ dX9_fact_13 fl_RX9_123 rfl e5 ?_
    refine mw_aload_n (x := (some a0)) dX9_fact_16 rfl ?_
    obtain ⟨x6, e7, hf⟩ := ob hf
    refine ml_getI dX9_fact_17 fl_RX9_340 rfl e7 ?_
    refine mw_iload_n (x := v1) dX9_fact_20 rfl ?_
    obtain ⟨h8, e9, hf⟩ := ob hf
    refine ml_iast dX9_fact_21 e9 ?_
    refine mw_aload_n (x := (some a0)) dX9_fact_22 rfl ?_
    obtain ⟨x10, e11, hf⟩ := ob hf
    refine ml_getQ dX9_fact_23 fl_RX9_126 rfl e11 ?_
    refine mw_aload_n (x := (some a0)) dX9_fact_26 rfl ?_
    obtain ⟨x12, e13, hf⟩ := ob hf
    refine ml_getI dX9_fact_27 fl_RX9_340 rfl e13 ?_
    refine mw_iload_n (x := v2) dX9_fact_30 rfl ?_
    obtain ⟨h14, e15, hf⟩ := ob hf
    refine ml_iast dX9_fact_31 e15 ?_
    refine mw_aload_n (x := (some a0)) dX9_fact_32 rfl ?_
    obtain ⟨x16, e17, hf⟩ := ob hf
    refine ml_getQ dX9_fact_33 fl_RX9_129 rfl e17 ?_
    refine mw_aload_n (x := (some a0)) dX9_fact_36 rfl ?_
    obtain ⟨x18, e19, hf⟩ := ob hf
    refine ml_getI dX9_fact_37 fl_RX9_340 rfl e19 ?_
    refine mw_iload_n (x := v3) dX9_fact_40 rfl ?_
    obtain ⟨h20, e21, hf⟩ := ob hf
    refine ml_iast dX9_fact_41 e21 ?_
    refine mw_aload_n (x := (some a0)) dX9_fact_42 rfl ?_
    obtain ⟨x22, e23, hf⟩ := ob hf
    refine ml_getQ dX9_fact_43 fl_RX9_132 rfl e23 ?_
    refine mw_aload_n (x := (some a0)) dX9_fact_46 rfl ?_
    obtain ⟨x24, e25, hf⟩ := ob hf
    refine ml_getI dX9_fact_47 fl_RX9_340 rfl e25 ?_
    refine mw_iload (x := v4) dX9_fact_50 rfl ?_
    obtain ⟨h26, e27, hf⟩ := ob hf
    refine ml_iast dX9_fact_52 e27 ?_
    refine mw_aload_n (x := (some a0)) dX9_fact_53 rfl ?_
    obtain ⟨x28, e29, hf⟩ := ob hf
    refine ml_getQ dX9_fact_54 fl_RX9_135 rfl e29 ?_
    refine mw_aload_n (x := (some a0)) dX9_fact_57 rfl ?_
    obtain ⟨x30, e31, hf⟩ := ob hf
    refine ml_getI dX9_fact_58 fl_RX9_340 rfl e31 ?_
    refine mw_iload (x := v5) dX9_fact_61 rfl ?_
    obtain ⟨h32, e33, hf⟩ := ob hf
    refine ml_iast dX9_fact_63 e33 ?_
    refine mw_aload_n (x := (some a0)) dX9_fact_64 rfl ?_
    obtain ⟨x34, e35, hf⟩ := ob hf
    refine ml_getQ dX9_fact_65 fl_RX9_138 rfl e35 ?_
    refine mw_aload_n (x := (some a0)) dX9_fact_68 rfl ?_
    obtain ⟨x36, e37, hf⟩ := ob hf
    refine ml_getI dX9_fact_69 fl_RX9_340 rfl e37 ?_
    refine mw_aload_n (x := (some a0)) dX9_fact_72 rfl ?_
    obtain ⟨x38, e39, hf⟩ := ob hf
    refine ml_getI dX9_fact_73 fl_RX9_343 rfl e39 ?_
    obtain ⟨h40, e41, hf⟩ := ob hf
    refine ml_iast dX9_fact_76 e41 ?_
    refine mw_aload_n (x := (some a0)) dX9_fact_77 rfl ?_
    obtain ⟨x42, e43, hf⟩ := ob hf
    refine ml_getQ dX9_fact_78 fl_RX9_141 rfl e43 ?_
    refine mw_aload_n (x := (some a0)) dX9_fact_81 rfl ?_
    obtain ⟨x44, e45, hf⟩ := ob hf
    refine ml_getI dX9_fact_82 fl_RX9_340 rfl e45 ?_
    refine mw_iconst (v := (-1)) dX9_fact_85 (by decide) ?_
    obtain ⟨h46, e47, hf⟩ := ob hf
    refine ml_iast dX9_fact_86 e47 ?_
    refine mw_aload_n (x := (some a0)) dX9_fact_87 rfl ?_
    refine mw_dupq dX9_fact_88 ?_
    obtain ⟨x48, e49, hf⟩ := ob hf
    refine ml_getI dX9_fact_89 fl_RX9_340 rfl e49 ?_
    refine mw_iconst (v := 1) dX9_fact_92 (by decide) ?_
    refine mw_iadd dX9_fact_93 ?_
    obtain ⟨h50, e51, hf⟩ := ob hf
    refine ml_putI dX9_fact_94 fl_RX9_340 (Or.inl rfl) rfl rfl e51 ?_
    refine mw_aload_n (x := (some a0)) dX9_fact_97 rfl ?_
    obtain ⟨x52, e53, hf⟩ := ob hf
    refine ml_getI dX9_fact_98 fl_RX9_340 rfl e53 ?_
    refine mw_iconst (v := 1) dX9_fact_101 (by decide) ?_
    refine mw_isub dX9_fact_102 ?_
    obtain ⟨rfl, rfl⟩ := y1 hf
    exact mw_ireturn dX9_fact_103 rfl rfl hk
  · rw [if_pos c3] at hf
    refine mw_iconst (v := (-1)) dX9_fact_10 (by decide) ?_
    obtain ⟨rfl, rfl⟩ := y1 hf
    exact mw_ireturn dX9_fact_11 rfl rfl hk
def f_X9_bank (a0 : Nat) (v1 : Int32) (v2 : Int32) (v3 : Int32) (v4 : Int32) (h : Hp) : Option (Int32 × Hp) :=
  (rc h (some a0) 8).bind fun g3 =>
  b1 (f_X9_isWorker g3 v1 h) fun x5 h1 =>
  if x5 = (0 : Int32) then
    some ((-1), h1)
  else
    b1 (f_X9_isWeek v2 h1) fun x9 h7 =>
    if x9 = (0 : Int32) then
      some ((-1), h7)
    else
      b1 (f_X9_isWeek v3 h7) fun x13 h11 =>
      if x13 = (0 : Int32) then
        some ((-1), h11)
      else
        if v3 < v2 then
          some ((-1), h11)
        else
          b1 (f_X9_isIn v4 (0 : Int32) (999999 : Int32) h11) fun x18 h16 =>
          if x18 = (0 : Int32) then
            some ((-1), h16)
          else
            (getQ h16 (some a0) 8 31).bind fun x20 =>
            (rdI h16 x20 10 v1).bind fun x22 =>
            if x22 = (10 : Int32) then
              some ((-1), h16)
            else
              (getI h16 (some a0) 8 41).bind fun x25 =>
              if x25 = (250 : Int32) then
                some ((-1), h16)
              else
                (getQ h16 (some a0) 8 31).bind fun x28 =>
                (rdI h16 x28 10 v1).bind fun x30 =>
                (wrI h16 x28 v1 (x30 + (1 : Int32))).bind fun h32 =>
                (rc h32 (some a0) 8).bind fun g36 =>
                b1 (f_X9_fact g36 (2 : Int32) v1 v2 v3 v4 h32) fun x38 h34 =>
                some (x38, h34)
set_option maxHeartbeats 4000000 in
theorem t_X9_bank (E : En) (d : Nat) {mc ms : Nat} {a0 : Nat} {v1 : Int32} {v2 : Int32} {v3 : Int32} {v4 : Int32} {h h' : Hp} {r : Int32} {K : Option Vv → Hp → Prop} (hf : f_X9_bank a0 v1 v2 v3 v4 h = some (r, h')) (hk : K (some (vi r)) h') : MC E m_X9_bank (d + 2) mc ms [vq (some a0), vi v1, vi v2, vi v3, vi v4] h K := by
  unfold f_X9_bank at hf
  show MW E m_X9_bank (d + 2) mc ms 0 [some (vq (some a0)), some (vi v1), some (vi v2), some (vi v3), some (vi v4)] [] h K
  refine mw_aload_n (x := (some a0)) dX9_bank_0 rfl ?_
  refine mw_iload_n (x := v1) dX9_bank_1 rfl ?_
  obtain ⟨g3, e4, hf⟩ := ob hf
  obtain ⟨x5, h1, e2, hf⟩ := ob1 hf
  refine ml_callV (ci := 8) (mc' := 0) (ms' := 0) [vi v1] dX9_bank_2 mk_X9_isWorker lk_RX9_346 im_X9_isWorker se_X9_isWorker (by decide) e4 rfl (Nat.le_of_ble_eq_true rfl) (Nat.le_of_ble_eq_true rfl) (t_X9_isWorker E _ e2 isR_rfl) ?_
  refine mw_if_eq (tgt := 60) dX9_bank_5 rfl (fun c6 => ?_) (fun c6 => ?_)
  · rw [if_pos c6] at hf
    refine mw_iconst (v := (-1)) dX9_bank_60 (by decide) ?_
    obtain ⟨rfl, rfl⟩ := y1 hf
    exact mw_ireturn dX9_bank_61 rfl rfl hk
  · rw [if_neg c6] at hf
    refine mw_iload_n (x := v2) dX9_bank_8 rfl ?_
    obtain ⟨x9, h7, e8, hf⟩ := ob1 hf
    refine ml_callS (mc' := 0) (ms' := 0) [vi v2] dX9_bank_9 mk_X9_isWeek lk_RX9_349 st_X9_isWeek rfl (Nat.le_of_ble_eq_true rfl) (Nat.le_of_ble_eq_true rfl) (t_X9_isWeek E _ e8 isR_rfl) ?_
    refine mw_if_eq (tgt := 60) dX9_bank_12 rfl (fun c10 => ?_) (fun c10 => ?_)
    · rw [if_pos c10] at hf
      refine mw_iconst (v := (-1)) dX9_bank_60 (by decide) ?_
      obtain ⟨rfl, rfl⟩ := y1 hf
      exact mw_ireturn dX9_bank_61 rfl rfl hk
    · rw [if_neg c10] at hf
      refine mw_iload_n (x := v3) dX9_bank_15 rfl ?_
      obtain ⟨x13, h11, e12, hf⟩ := ob1 hf
      refine ml_callS (mc' := 0) (ms' := 0) [vi v3] dX9_bank_16 mk_X9_isWeek lk_RX9_349 st_X9_isWeek rfl (Nat.le_of_ble_eq_true rfl) (Nat.le_of_ble_eq_true rfl) (t_X9_isWeek E _ e12 isR_rfl) ?_
      refine mw_if_eq (tgt := 60) dX9_bank_19 rfl (fun c14 => ?_) (fun c14 => ?_)
      · rw [if_pos c14] at hf
        refine mw_iconst (v := (-1)) dX9_bank_60 (by decide) ?_
        obtain ⟨rfl, rfl⟩ := y1 hf
        exact mw_ireturn dX9_bank_61 rfl rfl hk
      · rw [if_neg c14] at hf
        refine mw_iload_n (x := v3) dX9_bank_22 rfl ?_
        refine mw_iload_n (x := v2) dX9_bank_23 rfl ?_
        refine mw_icmp_lt (tgt := 60) dX9_bank_24 rfl (fun c15 => ?_) (fun c15 => ?_)
        · rw [if_pos c15] at hf
          refine mw_iconst (v := (-1)) dX9_bank_60 (by decide) ?_
          obtain ⟨rfl, rfl⟩ := y1 hf
          exact mw_ireturn dX9_bank_61 rfl rfl hk
        · rw [if_neg c15] at hf
          refine mw_iload (x := v4) dX9_bank_27 rfl ?_
          refine mw_iconst (v := 0) dX9_bank_29 (by decide) ?_
          refine mw_ldcw dX9_bank_30 kc_RX9_356 ?_
          obtain ⟨x18, h16, e17, hf⟩ := ob1 hf
          refine ml_callS (mc' := 0) (ms' := 0) [vi v4, vi (0 : Int32), vi (999999 : Int32)] dX9_bank_33 mk_X9_isIn lk_RX9_333 st_X9_isIn rfl (Nat.le_of_ble_eq_true rfl) (Nat.le_of_ble_eq_true rfl) (t_X9_isIn E _ e17 isR_rfl) ?_
          refine mw_if_eq (tgt := 60) dX9_bank_36 rfl (fun c19 => ?_) (fun c19 => ?_)
          · rw [if_pos c19] at hf
            refine mw_iconst (v := (-1)) dX9_bank_60 (by decide) ?_
            obtain ⟨rfl, rfl⟩ := y1 hf
            exact mw_ireturn dX9_bank_61 rfl rfl hk
          · rw [if_neg c19] at hf
            refine mw_aload_n (x := (some a0)) dX9_bank_39 rfl ?_
            obtain ⟨x20, e21, hf⟩ := ob hf
            refine ml_getQ dX9_bank_40 fl_RX9_120 rfl e21 ?_
            refine mw_iload_n (x := v1) dX9_bank_43 rfl ?_
            obtain ⟨x22, e23, hf⟩ := ob hf
            refine ml_iald dX9_bank_44 e23 ?_
            refine mw_bipush (v := 10) dX9_bank_45 (by decide) ?_
            refine mw_icmp_eq (tgt := 60) dX9_bank_47 rfl (fun c24 => ?_) (fun c24 => ?_)
            · rw [if_pos c24] at hf
              refine mw_iconst (v := (-1)) dX9_bank_60 (by decide) ?_
              obtain ⟨rfl, rfl⟩ := y1 hf
              exact mw_ireturn dX9_bank_61 rfl rfl hk
            · rw [if_neg c24] at hf
              refine mw_aload_n (x := (some a0)) dX9_bank_50 rfl ?_
              obtain ⟨x25, e26, hf⟩ := ob hf
              refine ml_getI dX9_bank_51 fl_RX9_340 rfl e26 ?_
              refine mw_sipush (v := 250) dX9_bank_54 (by decide) ?_
              refine mw_icmp_ne (tgt := 62) dX9_bank_57 rfl (fun c27 => ?_) (fun c27 => ?_)
              · rw [if_neg c27] at hf
                refine mw_aload_n (x := (some a0)) dX9_bank_62 rfl ?_
                obtain ⟨x28, e29, hf⟩ := ob hf
                refine ml_getQ dX9_bank_63 fl_RX9_120 rfl e29 ?_
                refine mw_iload_n (x := v1) dX9_bank_66 rfl ?_
                refine mw_dup2iq dX9_bank_67 ?_
                obtain ⟨x30, e31, hf⟩ := ob hf
                refine ml_iald dX9_bank_68 e31 ?_
                refine mw_iconst (v := 1) dX9_bank_69 (by decide) ?_
                refine mw_iadd dX9_bank_70 ?_
                obtain ⟨h32, e33, hf⟩ := ob hf
                refine ml_iast dX9_bank_71 e33 ?_
                refine mw_aload_n (x := (some a0)) dX9_bank_72 rfl ?_
                refine mw_iconst (v := 2) dX9_bank_73 (by decide) ?_
                refine mw_iload_n (x := v1) dX9_bank_74 rfl ?_
                refine mw_iload_n (x := v2) dX9_bank_75 rfl ?_
                refine mw_iload_n (x := v3) dX9_bank_76 rfl ?_
                refine mw_iload (x := v4) dX9_bank_77 rfl ?_
                obtain ⟨g36, e37, hf⟩ := ob hf
                obtain ⟨x38, h34, e35, hf⟩ := ob1 hf
                refine ml_callV (ci := 8) (mc' := 0) (ms' := 0) [vi (2 : Int32), vi v1, vi v2, vi v3, vi v4] dX9_bank_79 mk_X9_fact lk_RX9_352 im_X9_fact se_X9_fact (by decide) e37 rfl (Nat.le_of_ble_eq_true rfl) (Nat.le_of_ble_eq_true rfl) (t_X9_fact E _ e35 isR_rfl) ?_
                obtain ⟨rfl, rfl⟩ := y1 hf
                exact mw_ireturn dX9_bank_82 rfl rfl hk
              · rw [if_pos c27] at hf
                refine mw_iconst (v := (-1)) dX9_bank_60 (by decide) ?_
                obtain ⟨rfl, rfl⟩ := y1 hf
                exact mw_ireturn dX9_bank_61 rfl rfl hk
def f_X9_canBe_L12 : Nat → Nat → Int32 → Int32 → Hp → Option ((Hp) ⊕ (Hp))
  | 0, _, _, _, _ => none
  | n + 1, a0, v1, v3, h =>
    (getI h (some a0) 8 40).bind fun x5 =>
    if x5 ≤ v3 then
      some (Sum.inr h)
    else
      if ((v1 >>> (v3 &&& 31)) &&& (1 : Int32)) = (1 : Int32) then
        (getQ h (some a0) 8 67).bind fun x9 =>
        (rdJ h x9 11 v3).bind fun x11 =>
        if (lg_cmp x11 (0 : Int64)) = (0 : Int32) then
          some (Sum.inl h)
        else
          f_X9_canBe_L12 n a0 v1 (v3 + 1) h
      else
        f_X9_canBe_L12 n a0 v1 (v3 + 1) h
def f_X9_canBe (a0 : Nat) (v1 : Int32) (v2 : Int32) (h : Hp) : Option (Int32 × Hp) :=
  b1 (f_X9_bitsOf v1 h) fun x3 h1 =>
  if x3 ≤ v2 then
    (f_X9_canBe_L12 fu a0 v1 0 h1).bind (Sum.elim (fun h14 => some (0, h14)) (fun h15 => some (1, h15)))
  else
    some (0, h1)
set_option maxHeartbeats 4000000 in
theorem tl_X9_canBe_12 (E : En) (d : Nat) {mc ms : Nat} {K : Option Vv → Hp → Prop} : ∀ (n : Nat) (a0 : Nat) (v1 : Int32) (v3 : Int32) (h : Hp) (o : (Hp) ⊕ (Hp)), f_X9_canBe_L12 n a0 v1 v3 h = some o → (∀ (hz : Hp), o = Sum.inl hz → MW E m_X9_canBe (d + 1) mc ms 40 [none, none, none, none] [] hz K) → (∀ (hz : Hp), o = Sum.inr hz → MW E m_X9_canBe (d + 1) mc ms 48 [none, none, none, none] [] hz K) → MW E m_X9_canBe (d + 1) mc ms 12 [some (vq (some a0)), some (vi v1), none, some (vi v3)] [] h K := by
  intro n
  induction n with
  | zero => intro a0 v1 v3 h o hf; exact nomatch (show none = some _ from hf)
  | succ n ih =>
    intro a0 v1 v3 h o hf hX40 hX48
    rw [f_X9_canBe_L12] at hf
    refine mw_iload_n (x := v3) dX9_canBe_12 rfl ?_
    refine mw_aload_n (x := (some a0)) dX9_canBe_13 rfl ?_
    obtain ⟨x5, e6, hf⟩ := ob hf
    refine ml_getI dX9_canBe_14 fl_RX9_337 rfl e6 ?_
    refine mw_icmp_ge (tgt := 48) dX9_canBe_17 rfl (fun c7 => ?_) (fun c7 => ?_)
    · rw [if_pos c7] at hf
      obtain rfl := y0 hf
      exact MW.sub (subL_n (subL_n (subL_n (subL_n subL_nil)))) (hX48 _ rfl)
    · rw [if_neg c7] at hf
      refine mw_iload_n (x := v1) dX9_canBe_20 rfl ?_
      refine mw_iload_n (x := v3) dX9_canBe_21 rfl ?_
      refine mw_ishr dX9_canBe_22 ?_
      refine mw_iconst (v := 1) dX9_canBe_23 (by decide) ?_
      refine mw_iand dX9_canBe_24 ?_
      refine mw_iconst (v := 1) dX9_canBe_25 (by decide) ?_
      refine mw_icmp_ne (tgt := 42) dX9_canBe_26 rfl (fun c8 => ?_) (fun c8 => ?_)
      · rw [if_neg c8] at hf
        refine mw_iinc (x := v3) (v := v3 + 1) dX9_canBe_42 rfl rfl (by decide) rfl ?_
        refine mw_goto (tgt := 12) dX9_canBe_45 rfl ?_
        exact MW.sub (subL_s (subL_s (subL_n (subL_s subL_nil)))) (ih _ _ _ _ _ hf hX40 hX48)
      · rw [if_pos c8] at hf
        refine mw_aload_n (x := (some a0)) dX9_canBe_29 rfl ?_
        obtain ⟨x9, e10, hf⟩ := ob hf
        refine ml_getQ dX9_canBe_30 fl_RX9_190 rfl e10 ?_
        refine mw_iload_n (x := v3) dX9_canBe_33 rfl ?_
        obtain ⟨x11, e12, hf⟩ := ob hf
        refine ml_lald dX9_canBe_34 e12 ?_
        refine mw_lconst (v := 0) dX9_canBe_35 (by decide) ?_
        refine mw_lcmp dX9_canBe_36 ?_
        refine mw_if_ne (tgt := 42) dX9_canBe_37 rfl (fun c13 => ?_) (fun c13 => ?_)
        · rw [if_neg c13] at hf
          refine mw_iinc (x := v3) (v := v3 + 1) dX9_canBe_42 rfl rfl (by decide) rfl ?_
          refine mw_goto (tgt := 12) dX9_canBe_45 rfl ?_
          exact MW.sub (subL_s (subL_s (subL_n (subL_s subL_nil)))) (ih _ _ _ _ _ hf hX40 hX48)
        · rw [if_pos c13] at hf
          obtain rfl := y0 hf
          exact MW.sub (subL_n (subL_n (subL_n (subL_n subL_nil)))) (hX40 _ rfl)
set_option maxHeartbeats 4000000 in
theorem t_X9_canBe (E : En) (d : Nat) {mc ms : Nat} {a0 : Nat} {v1 : Int32} {v2 : Int32} {h h' : Hp} {r : Int32} {K : Option Vv → Hp → Prop} (hf : f_X9_canBe a0 v1 v2 h = some (r, h')) (hk : K (some (vi r)) h') : MC E m_X9_canBe (d + 1) mc ms [vq (some a0), vi v1, vi v2] h K := by
  unfold f_X9_canBe at hf
  show MW E m_X9_canBe (d + 1) mc ms 0 [some (vq (some a0)), some (vi v1), some (vi v2), none] [] h K
  refine mw_iload_n (x := v1) dX9_canBe_0 rfl ?_
  obtain ⟨x3, h1, e2, hf⟩ := ob1 hf
  refine ml_callS (mc' := 0) (ms' := 0) [vi v1] dX9_canBe_1 mk_X9_bitsOf lk_RX9_397 st_X9_bitsOf rfl (Nat.le_of_ble_eq_true rfl) (Nat.le_of_ble_eq_true rfl) (t_X9_bitsOf E _ e2 isR_rfl) ?_
  refine mw_iload_n (x := v2) dX9_canBe_4 rfl ?_
  refine mw_icmp_le (tgt := 10) dX9_canBe_5 rfl (fun c4 => ?_) (fun c4 => ?_)
  · rw [if_pos c4] at hf
    refine mw_iconst (v := 0) dX9_canBe_10 (by decide) ?_
    refine mw_istore_n dX9_canBe_11 (by decide) rfl ?_
    obtain ⟨o17, e16, hf⟩ := ob hf
    rcases o17 with h14 | h15
    · have HX : MW E m_X9_canBe (d + 1) mc ms 40 [none, none, none, none] [] h14 K := by
        refine mw_iconst (v := 0) dX9_canBe_40 (by decide) ?_
        obtain ⟨rfl, rfl⟩ := y1 hf
        exact mw_ireturn dX9_canBe_41 rfl rfl hk
      exact MW.sub (subL_s (subL_s (subL_n (subL_s subL_nil)))) (tl_X9_canBe_12 E d _ _ _ _ _ _ e16 (fun _ q => by cases q; exact HX) (fun _ q => by cases q))
    · have HX : MW E m_X9_canBe (d + 1) mc ms 48 [none, none, none, none] [] h15 K := by
        refine mw_iconst (v := 1) dX9_canBe_48 (by decide) ?_
        obtain ⟨rfl, rfl⟩ := y1 hf
        exact mw_ireturn dX9_canBe_49 rfl rfl hk
      exact MW.sub (subL_s (subL_s (subL_n (subL_s subL_nil)))) (tl_X9_canBe_12 E d _ _ _ _ _ _ e16 (fun _ q => by cases q) (fun _ q => by cases q; exact HX))
  · rw [if_neg c4] at hf
    refine mw_iconst (v := 0) dX9_canBe_8 (by decide) ?_
    obtain ⟨rfl, rfl⟩ := y1 hf
    exact mw_ireturn dX9_canBe_9 rfl rfl hk
def f_X9_canChain (a0 : Nat) (v1 : Int32) (v2 : Int32) (v3 : Int32) (v4 : Int32) (h : Hp) : Option (Int32 × Hp) :=
  b1 (f_X9_isShelf v1 h) fun x3 h1 =>
  if x3 = (0 : Int32) then
    some (0, h1)
  else
    (rc h1 (some a0) 8).bind fun g7 =>
    b1 (f_X9_isOf g7 v2 (5 : Int32) h1) fun x9 h5 =>
    if x9 = (0 : Int32) then
      some (0, h5)
    else
      (getQ h5 (some a0) 8 33).bind fun x11 =>
      (rdI h5 x11 10 v2).bind fun x13 =>
      (rc h5 (some a0) 8).bind fun g17 =>
      (f_X9_gather g17 v1 x13 v3 v4 h5).bind fun h15 =>
      (rc h15 (some a0) 8).bind fun g21 =>
      (f_X9_chainOf g21 v1 v2 h15).bind fun h19 =>
      some (1, h19)
set_option maxHeartbeats 4000000 in
theorem t_X9_canChain (E : En) (d : Nat) {mc ms : Nat} {a0 : Nat} {v1 : Int32} {v2 : Int32} {v3 : Int32} {v4 : Int32} {h h' : Hp} {r : Int32} {K : Option Vv → Hp → Prop} (hf : f_X9_canChain a0 v1 v2 v3 v4 h = some (r, h')) (hk : K (some (vi r)) h') : MC E m_X9_canChain (d + 7) mc ms [vq (some a0), vi v1, vi v2, vi v3, vi v4] h K := by
  unfold f_X9_canChain at hf
  show MW E m_X9_canChain (d + 7) mc ms 0 [some (vq (some a0)), some (vi v1), some (vi v2), some (vi v3), some (vi v4)] [] h K
  refine mw_iload_n (x := v1) dX9_canChain_0 rfl ?_
  obtain ⟨x3, h1, e2, hf⟩ := ob1 hf
  refine ml_callS (mc' := 0) (ms' := 0) [vi v1] dX9_canChain_1 mk_X9_isShelf lk_RX9_200 st_X9_isShelf rfl (Nat.le_of_ble_eq_true rfl) (Nat.le_of_ble_eq_true rfl) (t_X9_isShelf E _ e2 isR_rfl) ?_
  refine mw_if_eq (tgt := 16) dX9_canChain_4 rfl (fun c4 => ?_) (fun c4 => ?_)
  · rw [if_pos c4] at hf
    refine mw_iconst (v := 0) dX9_canChain_16 (by decide) ?_
    obtain ⟨rfl, rfl⟩ := y1 hf
    exact mw_ireturn dX9_canChain_17 rfl rfl hk
  · rw [if_neg c4] at hf
    refine mw_aload_n (x := (some a0)) dX9_canChain_7 rfl ?_
    refine mw_iload_n (x := v2) dX9_canChain_8 rfl ?_
    refine mw_iconst (v := 5) dX9_canChain_9 (by decide) ?_
    obtain ⟨g7, e8, hf⟩ := ob hf
    obtain ⟨x9, h5, e6, hf⟩ := ob1 hf
    refine ml_callV (ci := 8) (mc' := 0) (ms' := 0) [vi v2, vi (5 : Int32)] dX9_canChain_10 mk_X9_isOf lk_RX9_445 im_X9_isOf se_X9_isOf (by decide) e8 rfl (Nat.le_of_ble_eq_true rfl) (Nat.le_of_ble_eq_true rfl) (t_X9_isOf E _ e6 isR_rfl) ?_
    refine mw_if_ne (tgt := 18) dX9_canChain_13 rfl (fun c10 => ?_) (fun c10 => ?_)
    · rw [if_neg c10] at hf
      refine mw_aload_n (x := (some a0)) dX9_canChain_18 rfl ?_
      refine mw_iload_n (x := v1) dX9_canChain_19 rfl ?_
      refine mw_aload_n (x := (some a0)) dX9_canChain_20 rfl ?_
      obtain ⟨x11, e12, hf⟩ := ob hf
      refine ml_getQ dX9_canChain_21 fl_RX9_126 rfl e12 ?_
      refine mw_iload_n (x := v2) dX9_canChain_24 rfl ?_
      obtain ⟨x13, e14, hf⟩ := ob hf
      refine ml_iald dX9_canChain_25 e14 ?_
      refine mw_iload_n (x := v3) dX9_canChain_26 rfl ?_
      refine mw_iload (x := v4) dX9_canChain_27 rfl ?_
      obtain ⟨g17, e18, hf⟩ := ob hf
      obtain ⟨h15, e16, hf⟩ := ob hf
      refine ml_callV (ci := 8) (mc' := 0) (ms' := 0) [vi v1, vi x13, vi v3, vi v4] dX9_canChain_29 mk_X9_gather lk_RX9_460 im_X9_gather se_X9_gather (by decide) e18 rfl (Nat.le_of_ble_eq_true rfl) (Nat.le_of_ble_eq_true rfl) (t_X9_gather E _ e16 isR_rfl) ?_
      refine mw_aload_n (x := (some a0)) dX9_canChain_32 rfl ?_
      refine mw_iload_n (x := v1) dX9_canChain_33 rfl ?_
      refine mw_iload_n (x := v2) dX9_canChain_34 rfl ?_
      obtain ⟨g21, e22, hf⟩ := ob hf
      obtain ⟨h19, e20, hf⟩ := ob hf
      refine ml_callV (ci := 8) (mc' := 0) (ms' := 0) [vi v1, vi v2] dX9_canChain_35 mk_X9_chainOf lk_RX9_463 im_X9_chainOf se_X9_chainOf (by decide) e22 rfl (Nat.le_of_ble_eq_true rfl) (Nat.le_of_ble_eq_true rfl) (t_X9_chainOf E _ e20 isR_rfl) ?_
      refine mw_iconst (v := 1) dX9_canChain_38 (by decide) ?_
      obtain ⟨rfl, rfl⟩ := y1 hf
      exact mw_ireturn dX9_canChain_39 rfl rfl hk
    · rw [if_pos c10] at hf
      refine mw_iconst (v := 0) dX9_canChain_16 (by decide) ?_
      obtain ⟨rfl, rfl⟩ := y1 hf
      exact mw_ireturn dX9_canChain_17 rfl rfl hk
def f_X9_chain (a0 : Nat) (v1 : Int32) (v2 : Int32) (v3 : Int32) (v4 : Int32) (h : Hp) : Option (Int32 × Hp) :=
  (rc h (some a0) 8).bind fun g3 =>
  b1 (f_X9_canChain g3 v1 v2 v3 v4 h) fun x5 h1 =>
  b1 ((if x5 = (0 : Int32) then
      some ((-1), h1)
    else
      (getI h1 (some a0) 8 64).bind fun x9 =>
      some (x9, h1) : Option (Int32 × Hp))) fun w11 h12 =>
  some (w11, h12)
set_option maxHeartbeats 4000000 in
theorem t_X9_chain (E : En) (d : Nat) {mc ms : Nat} {a0 : Nat} {v1 : Int32} {v2 : Int32} {v3 : Int32} {v4 : Int32} {h h' : Hp} {r : Int32} {K : Option Vv → Hp → Prop} (hf : f_X9_chain a0 v1 v2 v3 v4 h = some (r, h')) (hk : K (some (vi r)) h') : MC E m_X9_chain (d + 8) mc ms [vq (some a0), vi v1, vi v2, vi v3, vi v4] h K := by
  unfold f_X9_chain at hf
  show MW E m_X9_chain (d + 8) mc ms 0 [some (vq (some a0)), some (vi v1), some (vi v2), some (vi v3), some (vi v4)] [] h K
  refine mw_aload_n (x := (some a0)) dX9_chain_0 rfl ?_
  refine mw_iload_n (x := v1) dX9_chain_1 rfl ?_
  refine mw_iload_n (x := v2) dX9_chain_2 rfl ?_
  refine mw_iload_n (x := v3) dX9_chain_3 rfl ?_
  refine mw_iload (x := v4) dX9_chain_4 rfl ?_
  obtain ⟨g3, e4, hf⟩ := ob hf
  obtain ⟨x5, h1, e2, hf⟩ := ob1 hf
  refine ml_callV (ci := 8) (mc' := 0) (ms' := 0) [vi v1, vi v2, vi v3, vi v4] dX9_chain_6 mk_X9_canChain lk_RX9_466 im_X9_canChain se_X9_canChain (by decide) e4 rfl (Nat.le_of_ble_eq_true rfl) (Nat.le_of_ble_eq_true rfl) (t_X9_canChain E _ e2 isR_rfl) ?_
  obtain ⟨w11, h12, r13, hf⟩ := ob1 hf
  have J14 : MW E m_X9_chain (d + 8) mc ms 20 [none, none, none, none, none] [vi w11] h12 K := by
    obtain ⟨rfl, rfl⟩ := y1 hf
    exact mw_ireturn dX9_chain_20 rfl rfl hk
  refine mw_if_eq (tgt := 19) dX9_chain_9 rfl (fun c6 => ?_) (fun c6 => ?_)
  · rw [if_pos c6] at r13
    refine mw_iconst (v := (-1)) dX9_chain_19 (by decide) ?_
    obtain ⟨rfl, rfl⟩ := y1 r13
    exact MW.sub (subL_n (subL_n (subL_n (subL_n (subL_n subL_nil))))) J14
  · rw [if_neg c6] at r13
    refine mw_aload_n (x := (some a0)) dX9_chain_12 rfl ?_
    obtain ⟨x9, e10, r13⟩ := ob r13
    refine ml_getI dX9_chain_13 fl_RX9_457 rfl e10 ?_
    refine mw_goto (tgt := 20) dX9_chain_16 rfl ?_
    obtain ⟨rfl, rfl⟩ := y1 r13
    exact MW.sub (subL_n (subL_n (subL_n (subL_n (subL_n subL_nil))))) J14
def f_X9_claim (a0 : Nat) (v1 : Int32) (v2 : Int32) (h : Hp) : Option (Int32 × Hp) :=
  (rc h (some a0) 8).bind fun g3 =>
  b1 (f_X9_isWorker g3 v1 h) fun x5 h1 =>
  b1 ((if x5 = (0 : Int32) then
      some ((-1), h1)
    else
      b1 (f_X9_isIn v2 (0 : Int32) (999 : Int32) h1) fun x18 h16 =>
      if x18 = (0 : Int32) then
        some ((-1), h16)
      else
        (rc h16 (some a0) 8).bind fun g22 =>
        b1 (f_X9_fact g22 (5 : Int32) v1 v2 (0 : Int32) (0 : Int32) h16) fun x24 h20 =>
        some (x24, h20) : Option (Int32 × Hp))) fun w25 h26 =>
  some (w25, h26)
set_option maxHeartbeats 4000000 in
theorem t_X9_claim (E : En) (d : Nat) {mc ms : Nat} {a0 : Nat} {v1 : Int32} {v2 : Int32} {h h' : Hp} {r : Int32} {K : Option Vv → Hp → Prop} (hf : f_X9_claim a0 v1 v2 h = some (r, h')) (hk : K (some (vi r)) h') : MC E m_X9_claim (d + 2) mc ms [vq (some a0), vi v1, vi v2] h K := by
  unfold f_X9_claim at hf
  show MW E m_X9_claim (d + 2) mc ms 0 [some (vq (some a0)), some (vi v1), some (vi v2)] [] h K
  refine mw_aload_n (x := (some a0)) dX9_claim_0 rfl ?_
  refine mw_iload_n (x := v1) dX9_claim_1 rfl ?_
  obtain ⟨g3, e4, hf⟩ := ob hf
  obtain ⟨x5, h1, e2, hf⟩ := ob1 hf
  refine ml_callV (ci := 8) (mc' := 0) (ms' := 0) [vi v1] dX9_claim_2 mk_X9_isWorker lk_RX9_346 im_X9_isWorker se_X9_isWorker (by decide) e4 rfl (Nat.le_of_ble_eq_true rfl) (Nat.le_of_ble_eq_true rfl) (t_X9_isWorker E _ e2 isR_rfl) ?_
  obtain ⟨w25, h26, r27, hf⟩ := ob1 hf
  have J28 : MW E m_X9_claim (d + 2) mc ms 32 [none, none, none] [vi w25] h26 K := by
    obtain ⟨rfl, rfl⟩ := y1 hf
    exact mw_ireturn dX9_claim_32 rfl rfl hk
  refine mw_if_eq (tgt := 31) dX9_claim_5 rfl (fun c6 => ?_) (fun c6 => ?_)
  · rw [if_pos c6] at r27
    refine mw_iconst (v := (-1)) dX9_claim_31 (by decide) ?_
    obtain ⟨rfl, rfl⟩ := y1 r27
    exact MW.sub (subL_n (subL_n (subL_n subL_nil))) J28
  · rw [if_neg c6] at r27
    refine mw_iload_n (x := v2) dX9_claim_8 rfl ?_
    refine mw_iconst (v := 0) dX9_claim_9 (by decide) ?_
    refine mw_sipush (v := 999) dX9_claim_10 (by decide) ?_
    obtain ⟨x18, h16, e17, r27⟩ := ob1 r27
    refine ml_callS (mc' := 0) (ms' := 0) [vi v2, vi (0 : Int32), vi (999 : Int32)] dX9_claim_13 mk_X9_isIn lk_RX9_333 st_X9_isIn rfl (Nat.le_of_ble_eq_true rfl) (Nat.le_of_ble_eq_true rfl) (t_X9_isIn E _ e17 isR_rfl) ?_
    refine mw_if_eq (tgt := 31) dX9_claim_16 rfl (fun c19 => ?_) (fun c19 => ?_)
    · rw [if_pos c19] at r27
      refine mw_iconst (v := (-1)) dX9_claim_31 (by decide) ?_
      obtain ⟨rfl, rfl⟩ := y1 r27
      exact MW.sub (subL_n (subL_n (subL_n subL_nil))) J28
    · rw [if_neg c19] at r27
      refine mw_aload_n (x := (some a0)) dX9_claim_19 rfl ?_
      refine mw_iconst (v := 5) dX9_claim_20 (by decide) ?_
      refine mw_iload_n (x := v1) dX9_claim_21 rfl ?_
      refine mw_iload_n (x := v2) dX9_claim_22 rfl ?_
      refine mw_iconst (v := 0) dX9_claim_23 (by decide) ?_
      refine mw_iconst (v := 0) dX9_claim_24 (by decide) ?_
      obtain ⟨g22, e23, r27⟩ := ob r27
      obtain ⟨x24, h20, e21, r27⟩ := ob1 r27
      refine ml_callV (ci := 8) (mc' := 0) (ms' := 0) [vi (5 : Int32), vi v1, vi v2, vi (0 : Int32), vi (0 : Int32)] dX9_claim_25 mk_X9_fact lk_RX9_352 im_X9_fact se_X9_fact (by decide) e23 rfl (Nat.le_of_ble_eq_true rfl) (Nat.le_of_ble_eq_true rfl) (t_X9_fact E _ e21 isR_rfl) ?_
      refine mw_goto (tgt := 32) dX9_claim_28 rfl ?_
      obtain ⟨rfl, rfl⟩ := y1 r27
      exact MW.sub (subL_n (subL_n (subL_n subL_nil))) J28
def f_X9_counted (a0 : Nat) (v1 : Int32) (v2 : Int32) (v3 : Int32) (v4 : Int32) (v5 : Int32) (h : Hp) : Option (Int32 × Hp) :=
  b1 (f_X9_isShelf v1 h) fun x3 h1 =>
  if x3 = (0 : Int32) then
    some ((-1), h1)
  else
    (rc h1 (some a0) 8).bind fun g7 =>
    b1 (f_X9_isWorker g7 v2 h1) fun x9 h5 =>
    if x9 = (0 : Int32) then
      some ((-1), h5)
    else
      b1 (f_X9_isWeek v3 h5) fun x13 h11 =>
      if x13 = (0 : Int32) then
        some ((-1), h11)
      else
        (rc h11 (some a0) 8).bind fun g17 =>
        (f_X9_reckon g17 v1 v2 v4 v5 h11).bind fun h15 =>
        (getQ h15 (some a0) 8 52).bind fun x19 =>
        (rdI h15 x19 10 v3).bind fun x21 =>
        some (x21, h15)
set_option maxHeartbeats 4000000 in
theorem t_X9_counted (E : En) (d : Nat) {mc ms : Nat} {a0 : Nat} {v1 : Int32} {v2 : Int32} {v3 : Int32} {v4 : Int32} {v5 : Int32} {h h' : Hp} {r : Int32} {K : Option Vv → Hp → Prop} (hf : f_X9_counted a0 v1 v2 v3 v4 v5 h = some (r, h')) (hk : K (some (vi r)) h') : MC E m_X9_counted (d + 6) mc ms [vq (some a0), vi v1, vi v2, vi v3, vi v4, vi v5] h K := by
  unfold f_X9_counted at hf
  show MW E m_X9_counted (d + 6) mc ms 0 [some (vq (some a0)), some (vi v1), some (vi v2), some (vi v3), some (vi v4), some (vi v5)] [] h K
  refine mw_iload_n (x := v1) dX9_counted_0 rfl ?_
  obtain ⟨x3, h1, e2, hf⟩ := ob1 hf
  refine ml_callS (mc' := 0) (ms' := 0) [vi v1] dX9_counted_1 mk_X9_isShelf lk_RX9_200 st_X9_isShelf rfl (Nat.le_of_ble_eq_true rfl) (Nat.le_of_ble_eq_true rfl) (t_X9_isShelf E _ e2 isR_rfl) ?_
  refine mw_if_eq (tgt := 22) dX9_counted_4 rfl (fun c4 => ?_) (fun c4 => ?_)
  · rw [if_pos c4] at hf
    refine mw_iconst (v := (-1)) dX9_counted_22 (by decide) ?_
    obtain ⟨rfl, rfl⟩ := y1 hf
    exact mw_ireturn dX9_counted_23 rfl rfl hk
  · rw [if_neg c4] at hf
    refine mw_aload_n (x := (some a0)) dX9_counted_7 rfl ?_
    refine mw_iload_n (x := v2) dX9_counted_8 rfl ?_
    obtain ⟨g7, e8, hf⟩ := ob hf
    obtain ⟨x9, h5, e6, hf⟩ := ob1 hf
    refine ml_callV (ci := 8) (mc' := 0) (ms' := 0) [vi v2] dX9_counted_9 mk_X9_isWorker lk_RX9_346 im_X9_isWorker se_X9_isWorker (by decide) e8 rfl (Nat.le_of_ble_eq_true rfl) (Nat.le_of_ble_eq_true rfl) (t_X9_isWorker E _ e6 isR_rfl) ?_
    refine mw_if_eq (tgt := 22) dX9_counted_12 rfl (fun c10 => ?_) (fun c10 => ?_)
    · rw [if_pos c10] at hf
      refine mw_iconst (v := (-1)) dX9_counted_22 (by decide) ?_
      obtain ⟨rfl, rfl⟩ := y1 hf
      exact mw_ireturn dX9_counted_23 rfl rfl hk
    · rw [if_neg c10] at hf
      refine mw_iload_n (x := v3) dX9_counted_15 rfl ?_
      obtain ⟨x13, h11, e12, hf⟩ := ob1 hf
      refine ml_callS (mc' := 0) (ms' := 0) [vi v3] dX9_counted_16 mk_X9_isWeek lk_RX9_349 st_X9_isWeek rfl (Nat.le_of_ble_eq_true rfl) (Nat.le_of_ble_eq_true rfl) (t_X9_isWeek E _ e12 isR_rfl) ?_
      refine mw_if_ne (tgt := 24) dX9_counted_19 rfl (fun c14 => ?_) (fun c14 => ?_)
      · rw [if_neg c14] at hf
        refine mw_aload_n (x := (some a0)) dX9_counted_24 rfl ?_
        refine mw_iload_n (x := v1) dX9_counted_25 rfl ?_
        refine mw_iload_n (x := v2) dX9_counted_26 rfl ?_
        refine mw_iload (x := v4) dX9_counted_27 rfl ?_
        refine mw_iload (x := v5) dX9_counted_29 rfl ?_
        obtain ⟨g17, e18, hf⟩ := ob hf
        obtain ⟨h15, e16, hf⟩ := ob hf
        refine ml_callV (ci := 8) (mc' := 0) (ms' := 0) [vi v1, vi v2, vi v4, vi v5] dX9_counted_31 mk_X9_reckon lk_RX9_425 im_X9_reckon se_X9_reckon (by decide) e18 rfl (Nat.le_of_ble_eq_true rfl) (Nat.le_of_ble_eq_true rfl) (t_X9_reckon E _ e16 isR_rfl) ?_
        refine mw_aload_n (x := (some a0)) dX9_counted_34 rfl ?_
        obtain ⟨x19, e20, hf⟩ := ob hf
        refine ml_getQ dX9_counted_35 fl_RX9_166 rfl e20 ?_
        refine mw_iload_n (x := v3) dX9_counted_38 rfl ?_
        obtain ⟨x21, e22, hf⟩ := ob hf
        refine ml_iald dX9_counted_39 e22 ?_
        obtain ⟨rfl, rfl⟩ := y1 hf
        exact mw_ireturn dX9_counted_40 rfl rfl hk
      · rw [if_pos c14] at hf
        refine mw_iconst (v := (-1)) dX9_counted_22 (by decide) ?_
        obtain ⟨rfl, rfl⟩ := y1 hf
        exact mw_ireturn dX9_counted_23 rfl rfl hk
def f_X9_due_L22 : Nat → Nat → Int32 → Int32 → Int64 → Int32 → Hp → Option ((Int64 × Hp))
  | 0, _, _, _, _, _, _ => none
  | n + 1, a0, v1, v2, v5, v7, h =>
    (getI h (some a0) 8 64).bind fun x7 =>
    if x7 ≤ v7 then
      some (v5, h)
    else
      (getQ h (some a0) 8 62).bind fun x10 =>
      (rdI h x10 10 v7).bind fun x12 =>
      (getQ h (some a0) 8 34).bind fun x14 =>
      (rdI h x14 10 v2).bind fun x16 =>
      (rc h (some a0) 8).bind fun g20 =>
      b1 (f_X9_withInterest g20 v1 x12 x16 h) fun x22 h18 =>
      f_X9_due_L22 n a0 v1 v2 (v5 + x22) (v7 + 1) h18
def f_X9_due (a0 : Nat) (v1 : Int32) (v2 : Int32) (v3 : Int32) (v4 : Int32) (h : Hp) : Option (Int64 × Hp) :=
  (rc h (some a0) 8).bind fun g3 =>
  b1 (f_X9_canChain g3 v1 v2 v3 v4 h) fun x5 h1 =>
  if x5 = (0 : Int32) then
    some ((-1), h1)
  else
    b1 (f_X9_due_L22 fu a0 v1 v2 0 0 h1) fun w23 h24 =>
    some (w23, h24)
set_option maxHeartbeats 4000000 in
theorem tl_X9_due_22 (E : En) (d : Nat) {mc ms : Nat} {K : Option Vv → Hp → Prop} : ∀ (n : Nat) (a0 : Nat) (v1 : Int32) (v2 : Int32) (v5 : Int64) (v7 : Int32) (h : Hp) (u5 : Int64) (hz : Hp), f_X9_due_L22 n a0 v1 v2 v5 v7 h = some (u5, hz) → MW E m_X9_due (d + 8) mc ms 60 [none, none, none, none, none, some (vl u5), none, none] [] hz K → MW E m_X9_due (d + 8) mc ms 22 [some (vq (some a0)), some (vi v1), some (vi v2), none, none, some (vl v5), none, some (vi v7)] [] h K := by
  intro n
  induction n with
  | zero => intro a0 v1 v2 v5 v7 h u5 hz hf; exact nomatch (show none = some _ from hf)
  | succ n ih =>
    intro a0 v1 v2 v5 v7 h u5 hz hf hX60
    rw [f_X9_due_L22] at hf
    refine mw_iload (x := v7) dX9_due_22 rfl ?_
    refine mw_aload_n (x := (some a0)) dX9_due_24 rfl ?_
    obtain ⟨x7, e8, hf⟩ := ob hf
    refine ml_getI dX9_due_25 fl_RX9_457 rfl e8 ?_
    refine mw_icmp_ge (tgt := 60) dX9_due_28 rfl (fun c9 => ?_) (fun c9 => ?_)
    · rw [if_pos c9] at hf
      obtain ⟨rfl, rfl⟩ := y1 hf
      exact MW.sub (subL_n (subL_n (subL_n (subL_n (subL_n (subL_s (subL_n (subL_n subL_nil)))))))) hX60
    · rw [if_neg c9] at hf
      refine mw_lload (x := v5) dX9_due_31 rfl ?_
      refine mw_aload_n (x := (some a0)) dX9_due_33 rfl ?_
      refine mw_iload_n (x := v1) dX9_due_34 rfl ?_
      refine mw_aload_n (x := (some a0)) dX9_due_35 rfl ?_
      obtain ⟨x10, e11, hf⟩ := ob hf
      refine ml_getQ dX9_due_36 fl_RX9_184 rfl e11 ?_
      refine mw_iload (x := v7) dX9_due_39 rfl ?_
      obtain ⟨x12, e13, hf⟩ := ob hf
      refine ml_iald dX9_due_41 e13 ?_
      refine mw_aload_n (x := (some a0)) dX9_due_42 rfl ?_
      obtain ⟨x14, e15, hf⟩ := ob hf
      refine ml_getQ dX9_due_43 fl_RX9_129 rfl e15 ?_
      refine mw_iload_n (x := v2) dX9_due_46 rfl ?_
      obtain ⟨x16, e17, hf⟩ := ob hf
      refine ml_iald dX9_due_47 e17 ?_
      obtain ⟨g20, e21, hf⟩ := ob hf
      obtain ⟨x22, h18, e19, hf⟩ := ob1 hf
      refine ml_callV (ci := 8) (mc' := 0) (ms' := 0) [vi v1, vi x12, vi x16] dX9_due_48 mk_X9_withInterest lk_RX9_474 im_X9_withInterest se_X9_withInterest (by decide) e21 rfl (Nat.le_of_ble_eq_true rfl) (Nat.le_of_ble_eq_true rfl) (t_X9_withInterest E _ e19 isR_rfl) ?_
      refine mw_ladd dX9_due_51 ?_
      refine mw_lstore dX9_due_52 (by decide) rfl ?_
      refine mw_iinc (x := v7) (v := v7 + 1) dX9_due_54 rfl rfl (by decide) rfl ?_
      refine mw_goto (tgt := 22) dX9_due_57 rfl ?_
      exact MW.sub (subL_s (subL_s (subL_s (subL_n (subL_n (subL_s (subL_n (subL_s subL_nil)))))))) (ih _ _ _ _ _ _ _ _ hf hX60)
set_option maxHeartbeats 4000000 in
theorem t_X9_due (E : En) (d : Nat) {mc ms : Nat} {a0 : Nat} {v1 : Int32} {v2 : Int32} {v3 : Int32} {v4 : Int32} {h h' : Hp} {r : Int64} {K : Option Vv → Hp → Prop} (hf : f_X9_due a0 v1 v2 v3 v4 h = some (r, h')) (hk : K (some (vl r)) h') : MC E m_X9_due (d + 8) mc ms [vq (some a0), vi v1, vi v2, vi v3, vi v4] h K := by
  unfold f_X9_due at hf
  show MW E m_X9_due (d + 8) mc ms 0 [some (vq (some a0)), some (vi v1), some (vi v2), some (vi v3), some (vi v4), none, none, none] [] h K
  refine mw_aload_n (x := (some a0)) dX9_due_0 rfl ?_
  refine mw_iload_n (x := v1) dX9_due_1 rfl ?_
  refine mw_iload_n (x := v2) dX9_due_2 rfl ?_
  refine mw_iload_n (x := v3) dX9_due_3 rfl ?_
  refine mw_iload (x := v4) dX9_due_4 rfl ?_
  obtain ⟨g3, e4, hf⟩ := ob hf
  obtain ⟨x5, h1, e2, hf⟩ := ob1 hf
  refine ml_callV (ci := 8) (mc' := 0) (ms' := 0) [vi v1, vi v2, vi v3, vi v4] dX9_due_6 mk_X9_canChain lk_RX9_466 im_X9_canChain se_X9_canChain (by decide) e4 rfl (Nat.le_of_ble_eq_true rfl) (Nat.le_of_ble_eq_true rfl) (t_X9_canChain E _ e2 isR_rfl) ?_
  refine mw_if_ne (tgt := 16) dX9_due_9 rfl (fun c6 => ?_) (fun c6 => ?_)
  · rw [if_neg c6] at hf
    refine mw_lconst (v := 0) dX9_due_16 (by decide) ?_
    refine mw_lstore dX9_due_17 (by decide) rfl ?_
    refine mw_iconst (v := 0) dX9_due_19 (by decide) ?_
    refine mw_istore dX9_due_20 (by decide) rfl ?_
    obtain ⟨w23, h24, e25, hf⟩ := ob1 hf
    refine MW.sub (subL_s (subL_s (subL_s (subL_n (subL_n (subL_s (subL_n (subL_s subL_nil)))))))) (tl_X9_due_22 E d _ _ _ _ _ _ _ _ _ e25 ?_)
    refine mw_lload (x := w23) dX9_due_60 rfl ?_
    obtain ⟨rfl, rfl⟩ := y1 hf
    exact mw_lreturn dX9_due_62 rfl hk
  · rw [if_pos c6] at hf
    refine mw_ldc2 dX9_due_12 kc_RX9_472 ?_
    obtain ⟨rfl, rfl⟩ := y1 hf
    exact mw_lreturn dX9_due_15 rfl hk
def f_X9_empty (a0 : Nat) (v1 : Int32) (v2 : Int32) (v3 : Int32) (v4 : Int32) (v5 : Int32) (h : Hp) : Option (Int32 × Hp) :=
  b1 (f_X9_isShelf v1 h) fun x3 h1 =>
  if x3 = (0 : Int32) then
    some ((-1), h1)
  else
    (rc h1 (some a0) 8).bind fun g7 =>
    b1 (f_X9_isWorker g7 v2 h1) fun x9 h5 =>
    if x9 = (0 : Int32) then
      some ((-1), h5)
    else
      b1 (f_X9_isWeek v3 h5) fun x13 h11 =>
      if x13 = (0 : Int32) then
        some ((-1), h11)
      else
        (rc h11 (some a0) 8).bind fun g17 =>
        (f_X9_reckon g17 v1 v2 v4 v5 h11).bind fun h15 =>
        (getQ h15 (some a0) 8 54).bind fun x19 =>
        (rdI h15 x19 12 v3).bind fun x21 =>
        b1 ((if x21 = (0 : Int32) then
            some (0, h15)
          else
            some (1, h15) : Option (Int32 × Hp))) fun w24 h25 =>
        some (w24, h25)
set_option maxHeartbeats 4000000 in
theorem t_X9_empty (E : En) (d : Nat) {mc ms : Nat} {a0 : Nat} {v1 : Int32} {v2 : Int32} {v3 : Int32} {v4 : Int32} {v5 : Int32} {h h' : Hp} {r : Int32} {K : Option Vv → Hp → Prop} (hf : f_X9_empty a0 v1 v2 v3 v4 v5 h = some (r, h')) (hk : K (some (vi r)) h') : MC E m_X9_empty (d + 6) mc ms [vq (some a0), vi v1, vi v2, vi v3, vi v4, vi v5] h K := by
  unfold f_X9_empty at hf
  show MW E m_X9_empty (d + 6) mc ms 0 [some (vq (some a0)), some (vi v1), some (vi v2), some (vi v3), some (vi v4), some (vi v5)] [] h K
  refine mw_iload_n (x := v1) dX9_empty_0 rfl ?_
  obtain ⟨x3, h1, e2, hf⟩ := ob1 hf
  refine ml_callS (mc' := 0) (ms' := 0) [vi v1] dX9_empty_1 mk_X9_isShelf lk_RX9_200 st_X9_isShelf rfl (Nat.le_of_ble_eq_true rfl) (Nat.le_of_ble_eq_true rfl) (t_X9_isShelf E _ e2 isR_rfl) ?_
  refine mw_if_eq (tgt := 22) dX9_empty_4 rfl (fun c4 => ?_) (fun c4 => ?_)
  · rw [if_pos c4] at hf
    refine mw_iconst (v := (-1)) dX9_empty_22 (by decide) ?_
    obtain ⟨rfl, rfl⟩ := y1 hf
    exact mw_ireturn dX9_empty_23 rfl rfl hk
  · rw [if_neg c4] at hf
    refine mw_aload_n (x := (some a0)) dX9_empty_7 rfl ?_
    refine mw_iload_n (x := v2) dX9_empty_8 rfl ?_
    obtain ⟨g7, e8, hf⟩ := ob hf
    obtain ⟨x9, h5, e6, hf⟩ := ob1 hf
    refine ml_callV (ci := 8) (mc' := 0) (ms' := 0) [vi v2] dX9_empty_9 mk_X9_isWorker lk_RX9_346 im_X9_isWorker se_X9_isWorker (by decide) e8 rfl (Nat.le_of_ble_eq_true rfl) (Nat.le_of_ble_eq_true rfl) (t_X9_isWorker E _ e6 isR_rfl) ?_
    refine mw_if_eq (tgt := 22) dX9_empty_12 rfl (fun c10 => ?_) (fun c10 => ?_)
    · rw [if_pos c10] at hf
      refine mw_iconst (v := (-1)) dX9_empty_22 (by decide) ?_
      obtain ⟨rfl, rfl⟩ := y1 hf
      exact mw_ireturn dX9_empty_23 rfl rfl hk
    · rw [if_neg c10] at hf
      refine mw_iload_n (x := v3) dX9_empty_15 rfl ?_
      obtain ⟨x13, h11, e12, hf⟩ := ob1 hf
      refine ml_callS (mc' := 0) (ms' := 0) [vi v3] dX9_empty_16 mk_X9_isWeek lk_RX9_349 st_X9_isWeek rfl (Nat.le_of_ble_eq_true rfl) (Nat.le_of_ble_eq_true rfl) (t_X9_isWeek E _ e12 isR_rfl) ?_
      refine mw_if_ne (tgt := 24) dX9_empty_19 rfl (fun c14 => ?_) (fun c14 => ?_)
      · rw [if_neg c14] at hf
        refine mw_aload_n (x := (some a0)) dX9_empty_24 rfl ?_
        refine mw_iload_n (x := v1) dX9_empty_25 rfl ?_
        refine mw_iload_n (x := v2) dX9_empty_26 rfl ?_
        refine mw_iload (x := v4) dX9_empty_27 rfl ?_
        refine mw_iload (x := v5) dX9_empty_29 rfl ?_
        obtain ⟨g17, e18, hf⟩ := ob hf
        obtain ⟨h15, e16, hf⟩ := ob hf
        refine ml_callV (ci := 8) (mc' := 0) (ms' := 0) [vi v1, vi v2, vi v4, vi v5] dX9_empty_31 mk_X9_reckon lk_RX9_425 im_X9_reckon se_X9_reckon (by decide) e18 rfl (Nat.le_of_ble_eq_true rfl) (Nat.le_of_ble_eq_true rfl) (t_X9_reckon E _ e16 isR_rfl) ?_
        refine mw_aload_n (x := (some a0)) dX9_empty_34 rfl ?_
        obtain ⟨x19, e20, hf⟩ := ob hf
        refine ml_getQ dX9_empty_35 fl_RX9_172 rfl e20 ?_
        refine mw_iload_n (x := v3) dX9_empty_38 rfl ?_
        obtain ⟨x21, e22, hf⟩ := ob hf
        refine ml_zald dX9_empty_39 e22 ?_
        obtain ⟨w24, h25, r26, hf⟩ := ob1 hf
        have J27 : MW E m_X9_empty (d + 6) mc ms 48 [none, none, none, none, none, none] [vi w24] h25 K := by
          obtain ⟨rfl, rfl⟩ := y1 hf
          exact mw_ireturn dX9_empty_48 rfl rfl hk
        refine mw_if_eq (tgt := 47) dX9_empty_40 rfl (fun c23 => ?_) (fun c23 => ?_)
        · rw [if_pos c23] at r26
          refine mw_iconst (v := 0) dX9_empty_47 (by decide) ?_
          obtain ⟨rfl, rfl⟩ := y1 r26
          exact MW.sub (subL_n (subL_n (subL_n (subL_n (subL_n (subL_n subL_nil)))))) J27
        · rw [if_neg c23] at r26
          refine mw_iconst (v := 1) dX9_empty_43 (by decide) ?_
          refine mw_goto (tgt := 48) dX9_empty_44 rfl ?_
          obtain ⟨rfl, rfl⟩ := y1 r26
          exact MW.sub (subL_n (subL_n (subL_n (subL_n (subL_n (subL_n subL_nil)))))) J27
      · rw [if_pos c14] at hf
        refine mw_iconst (v := (-1)) dX9_empty_22 (by decide) ?_
        obtain ⟨rfl, rfl⟩ := y1 hf
        exact mw_ireturn dX9_empty_23 rfl rfl hk
def f_X9_end (a0 : Nat) (v1 : Int32) (h : Hp) : Option (Int32 × Hp) :=
  if v1 < (0 : Int32) then
    some ((-1), h)
  else
    (getI h (some a0) 8 2).bind fun x2 =>
    if v1 ≤ x2 then
      (putI h (some a0) 8 2 v1).bind fun h5 =>
      some (v1, h5)
    else
      some ((-1), h)
set_option maxHeartbeats 4000000 in
theorem t_X9_end (E : En) (d : Nat) {mc ms : Nat} {a0 : Nat} {v1 : Int32} {h h' : Hp} {r : Int32} {K : Option Vv → Hp → Prop} (hf : f_X9_end a0 v1 h = some (r, h')) (hk : K (some (vi r)) h') : MC E m_X9_end (d + 0) mc ms [vq (some a0), vi v1] h K := by
  unfold f_X9_end at hf
  show MW E m_X9_end (d + 0) mc ms 0 [some (vq (some a0)), some (vi v1)] [] h K
  refine mw_iload_n (x := v1) dX9_end_0 rfl ?_
  refine mw_if_lt (tgt := 12) dX9_end_1 rfl (fun c1 => ?_) (fun c1 => ?_)
  · rw [if_pos c1] at hf
    refine mw_iconst (v := (-1)) dX9_end_12 (by decide) ?_
    obtain ⟨rfl, rfl⟩ := y1 hf
    exact mw_ireturn dX9_end_13 rfl rfl hk
  · rw [if_neg c1] at hf
    refine mw_iload_n (x := v1) dX9_end_4 rfl ?_
    refine mw_aload_n (x := (some a0)) dX9_end_5 rfl ?_
    obtain ⟨x2, e3, hf⟩ := ob hf
    refine ml_getI dX9_end_6 fl_RX9_203 rfl e3 ?_
    refine mw_icmp_le (tgt := 14) dX9_end_9 rfl (fun c4 => ?_) (fun c4 => ?_)
    · rw [if_pos c4] at hf
      refine mw_aload_n (x := (some a0)) dX9_end_14 rfl ?_
      refine mw_iload_n (x := v1) dX9_end_15 rfl ?_
      obtain ⟨h5, e6, hf⟩ := ob hf
      refine ml_putI dX9_end_16 fl_RX9_203 (Or.inl rfl) rfl rfl e6 ?_
      refine mw_iload_n (x := v1) dX9_end_19 rfl ?_
      obtain ⟨rfl, rfl⟩ := y1 hf
      exact mw_ireturn dX9_end_20 rfl rfl hk
    · rw [if_neg c4] at hf
      refine mw_iconst (v := (-1)) dX9_end_12 (by decide) ?_
      obtain ⟨rfl, rfl⟩ := y1 hf
      exact mw_ireturn dX9_end_13 rfl rfl hk
def f_X9_fault (a0 : Nat) (v1 : Int32) (h : Hp) : Option (Int32 × Hp) :=
  b1 ((if v1 = (0 : Int32) then
      (getI h (some a0) 8 4).bind fun x10 =>
      some (x10, h)
    else
      if v1 = (1 : Int32) then
        (getI h (some a0) 8 5).bind fun x8 =>
        some (x8, h)
      else
        some ((-1), h) : Option (Int32 × Hp))) fun w12 h13 =>
  some (w12, h13)
set_option maxHeartbeats 4000000 in
theorem t_X9_fault (E : En) (d : Nat) {mc ms : Nat} {a0 : Nat} {v1 : Int32} {h h' : Hp} {r : Int32} {K : Option Vv → Hp → Prop} (hf : f_X9_fault a0 v1 h = some (r, h')) (hk : K (some (vi r)) h') : MC E m_X9_fault (d + 0) mc ms [vq (some a0), vi v1] h K := by
  unfold f_X9_fault at hf
  show MW E m_X9_fault (d + 0) mc ms 0 [some (vq (some a0)), some (vi v1)] [] h K
  refine mw_iload_n (x := v1) dX9_fault_0 rfl ?_
  obtain ⟨w12, h13, r14, hf⟩ := ob1 hf
  have J15 : MW E m_X9_fault (d + 0) mc ms 24 [none, none] [vi w12] h13 K := by
    obtain ⟨rfl, rfl⟩ := y1 hf
    exact mw_ireturn dX9_fault_24 rfl rfl hk
  refine mw_if_ne (tgt := 11) dX9_fault_1 rfl (fun c1 => ?_) (fun c1 => ?_)
  · rw [if_neg c1] at r14
    refine mw_iload_n (x := v1) dX9_fault_11 rfl ?_
    refine mw_iconst (v := 1) dX9_fault_12 (by decide) ?_
    refine mw_icmp_ne (tgt := 23) dX9_fault_13 rfl (fun c7 => ?_) (fun c7 => ?_)
    · rw [if_neg c7] at r14
      refine mw_iconst (v := (-1)) dX9_fault_23 (by decide) ?_
      obtain ⟨rfl, rfl⟩ := y1 r14
      exact MW.sub (subL_n (subL_n subL_nil)) J15
    · rw [if_pos c7] at r14
      refine mw_aload_n (x := (some a0)) dX9_fault_16 rfl ?_
      obtain ⟨x8, e9, r14⟩ := ob r14
      refine ml_getI dX9_fault_17 fl_RX9_14 rfl e9 ?_
      refine mw_goto (tgt := 24) dX9_fault_20 rfl ?_
      obtain ⟨rfl, rfl⟩ := y1 r14
      exact MW.sub (subL_n (subL_n subL_nil)) J15
  · rw [if_pos c1] at r14
    refine mw_aload_n (x := (some a0)) dX9_fault_4 rfl ?_
    obtain ⟨x10, e11, r14⟩ := ob r14
    refine ml_getI dX9_fault_5 fl_RX9_11 rfl e11 ?_
    refine mw_goto (tgt := 24) dX9_fault_8 rfl ?_
    obtain ⟨rfl, rfl⟩ := y1 r14
    exact MW.sub (subL_n (subL_n subL_nil)) J15
def f_X9_feed_L18 : Nat → Nat → Int32 → Int32 → Int32 → Int32 → Int32 → Int32 → Hp → Option ((Hp))
  | 0, _, _, _, _, _, _, _, _ => none
  | n + 1, a0, v1, v2, v3, v4, v5, v6, h =>
    if (20 : Int32) ≤ v6 then
      some h
    else
      b1 ((if (4 : Int32) ≤ v6 then
          if (8 : Int32) ≤ v6 then
            if (12 : Int32) ≤ v6 then
              if (16 : Int32) ≤ v6 then
                some (v5, h)
              else
                some (v4, h)
            else
              some (v3, h)
          else
            some (v2, h)
        else
          some (v1, h) : Option (Int32 × Hp))) fun w12 h13 =>
      (getQ h13 (some a0) 8 0).bind fun x15 =>
      (getI h13 (some a0) 8 2).bind fun x17 =>
      (wrB h13 x15 (x17 + v6) ((w12 >>> (((24 : Int32) - ((8 : Int32) * (v6 &&& (3 : Int32)))) &&& 31)).toInt8.toInt32)).bind fun h19 =>
      f_X9_feed_L18 n a0 v1 v2 v3 v4 v5 (v6 + 1) h19
def f_X9_feed (a0 : Nat) (v1 : Int32) (v2 : Int32) (v3 : Int32) (v4 : Int32) (v5 : Int32) (h : Hp) : Option (Int32 × Hp) :=
  (getI h (some a0) 8 2).bind fun x1 =>
  if (x1 + (20 : Int32)) ≤ (900 : Int32) then
    (f_X9_feed_L18 fu a0 v1 v2 v3 v4 v5 0 h).bind fun h21 =>
    (getI h21 (some a0) 8 2).bind fun x22 =>
    (putI h21 (some a0) 8 2 (x22 + (20 : Int32))).bind fun h24 =>
    (getI h24 (some a0) 8 2).bind fun x26 =>
    some (x26, h24)
  else
    some ((-1), h)
set_option maxHeartbeats 4000000 in
theorem tl_X9_feed_18 (E : En) (d : Nat) {mc ms : Nat} {K : Option Vv → Hp → Prop} : ∀ (n : Nat) (a0 : Nat) (v1 : Int32) (v2 : Int32) (v3 : Int32) (v4 : Int32) (v5 : Int32) (v6 : Int32) (h : Hp) (hz : Hp), f_X9_feed_L18 n a0 v1 v2 v3 v4 v5 v6 h = some hz → MW E m_X9_feed (d + 0) mc ms 105 [some (vq (some a0)), none, none, none, none, none, none, none] [] hz K → MW E m_X9_feed (d + 0) mc ms 18 [some (vq (some a0)), some (vi v1), some (vi v2), some (vi v3), some (vi v4), some (vi v5), some (vi v6), none] [] h K := by
  intro n
  induction n with
  | zero => intro a0 v1 v2 v3 v4 v5 v6 h hz hf; exact nomatch (show none = some _ from hf)
  | succ n ih =>
    intro a0 v1 v2 v3 v4 v5 v6 h hz hf hX105
    rw [f_X9_feed_L18] at hf
    refine mw_iload (x := v6) dX9_feed_18 rfl ?_
    refine mw_bipush (v := 20) dX9_feed_20 (by decide) ?_
    refine mw_icmp_ge (tgt := 105) dX9_feed_22 rfl (fun c4 => ?_) (fun c4 => ?_)
    · rw [if_pos c4] at hf
      obtain rfl := y0 hf
      exact MW.sub (subL_s (subL_n (subL_n (subL_n (subL_n (subL_n (subL_n (subL_n subL_nil)))))))) hX105
    · rw [if_neg c4] at hf
      refine mw_iload (x := v6) dX9_feed_25 rfl ?_
      refine mw_iconst (v := 4) dX9_feed_27 (by decide) ?_
      obtain ⟨w12, h13, r14, hf⟩ := ob1 hf
      have J30 : MW E m_X9_feed (d + 0) mc ms 71 [some (vq (some a0)), some (vi v1), some (vi v2), some (vi v3), some (vi v4), some (vi v5), some (vi v6), none] [vi w12] h13 K := by
        refine mw_istore dX9_feed_71 (by decide) rfl ?_
        refine mw_aload_n (x := (some a0)) dX9_feed_73 rfl ?_
        obtain ⟨x15, e16, hf⟩ := ob hf
        refine ml_getQ dX9_feed_74 fl_RX9_87 rfl e16 ?_
        refine mw_aload_n (x := (some a0)) dX9_feed_77 rfl ?_
        obtain ⟨x17, e18, hf⟩ := ob hf
        refine ml_getI dX9_feed_78 fl_RX9_203 rfl e18 ?_
        refine mw_iload (x := v6) dX9_feed_81 rfl ?_
        refine mw_iadd dX9_feed_83 ?_
        refine mw_iload (x := w12) dX9_feed_84 rfl ?_
        refine mw_bipush (v := 24) dX9_feed_86 (by decide) ?_
        refine mw_bipush (v := 8) dX9_feed_88 (by decide) ?_
        refine mw_iload (x := v6) dX9_feed_90 rfl ?_
        refine mw_iconst (v := 3) dX9_feed_92 (by decide) ?_
        refine mw_iand dX9_feed_93 ?_
        refine mw_imul dX9_feed_94 ?_
        refine mw_isub dX9_feed_95 ?_
        refine mw_ishr dX9_feed_96 ?_
        refine mw_i2b dX9_feed_97 ?_
        obtain ⟨h19, e20, hf⟩ := ob hf
        refine ml_bast dX9_feed_98 e20 ?_
        refine mw_iinc (x := v6) (v := v6 + 1) dX9_feed_99 rfl rfl (by decide) rfl ?_
        refine mw_goto (tgt := 18) dX9_feed_102 rfl ?_
        exact MW.sub (subL_s (subL_s (subL_s (subL_s (subL_s (subL_s (subL_s (subL_n subL_nil)))))))) (ih _ _ _ _ _ _ _ _ _ hf hX105)
      refine mw_icmp_ge (tgt := 35) dX9_feed_28 rfl (fun c5 => ?_) (fun c5 => ?_)
      · rw [if_pos c5] at r14
        refine mw_iload (x := v6) dX9_feed_35 rfl ?_
        refine mw_bipush (v := 8) dX9_feed_37 (by decide) ?_
        refine mw_icmp_ge (tgt := 46) dX9_feed_39 rfl (fun c9 => ?_) (fun c9 => ?_)
        · rw [if_pos c9] at r14
          refine mw_iload (x := v6) dX9_feed_46 rfl ?_
          refine mw_bipush (v := 12) dX9_feed_48 (by decide) ?_
          refine mw_icmp_ge (tgt := 57) dX9_feed_50 rfl (fun c10 => ?_) (fun c10 => ?_)
          · rw [if_pos c10] at r14
            refine mw_iload (x := v6) dX9_feed_57 rfl ?_
            refine mw_bipush (v := 16) dX9_feed_59 (by decide) ?_
            refine mw_icmp_ge (tgt := 69) dX9_feed_61 rfl (fun c11 => ?_) (fun c11 => ?_)
            · rw [if_pos c11] at r14
              refine mw_iload (x := v5) dX9_feed_69 rfl ?_
              obtain ⟨rfl, rfl⟩ := y1 r14
              exact MW.sub (subL_s (subL_s (subL_s (subL_s (subL_s (subL_s (subL_s (subL_n subL_nil)))))))) J30
            · rw [if_neg c11] at r14
              refine mw_iload (x := v4) dX9_feed_64 rfl ?_
              refine mw_goto (tgt := 71) dX9_feed_66 rfl ?_
              obtain ⟨rfl, rfl⟩ := y1 r14
              exact MW.sub (subL_s (subL_s (subL_s (subL_s (subL_s (subL_s (subL_s (subL_n subL_nil)))))))) J30
          · rw [if_neg c10] at r14
            refine mw_iload_n (x := v3) dX9_feed_53 rfl ?_
            refine mw_goto (tgt := 71) dX9_feed_54 rfl ?_
            obtain ⟨rfl, rfl⟩ := y1 r14
            exact MW.sub (subL_s (subL_s (subL_s (subL_s (subL_s (subL_s (subL_s (subL_n subL_nil)))))))) J30
        · rw [if_neg c9] at r14
          refine mw_iload_n (x := v2) dX9_feed_42 rfl ?_
          refine mw_goto (tgt := 71) dX9_feed_43 rfl ?_
          obtain ⟨rfl, rfl⟩ := y1 r14
          exact MW.sub (subL_s (subL_s (subL_s (subL_s (subL_s (subL_s (subL_s (subL_n subL_nil)))))))) J30
      · rw [if_neg c5] at r14
        refine mw_iload_n (x := v1) dX9_feed_31 rfl ?_
        refine mw_goto (tgt := 71) dX9_feed_32 rfl ?_
        obtain ⟨rfl, rfl⟩ := y1 r14
        exact MW.sub (subL_s (subL_s (subL_s (subL_s (subL_s (subL_s (subL_s (subL_n subL_nil)))))))) J30
set_option maxHeartbeats 4000000 in
theorem t_X9_feed (E : En) (d : Nat) {mc ms : Nat} {a0 : Nat} {v1 : Int32} {v2 : Int32} {v3 : Int32} {v4 : Int32} {v5 : Int32} {h h' : Hp} {r : Int32} {K : Option Vv → Hp → Prop} (hf : f_X9_feed a0 v1 v2 v3 v4 v5 h = some (r, h')) (hk : K (some (vi r)) h') : MC E m_X9_feed (d + 0) mc ms [vq (some a0), vi v1, vi v2, vi v3, vi v4, vi v5] h K := by
  unfold f_X9_feed at hf
  show MW E m_X9_feed (d + 0) mc ms 0 [some (vq (some a0)), some (vi v1), some (vi v2), some (vi v3), some (vi v4), some (vi v5), none, none] [] h K
  refine mw_aload_n (x := (some a0)) dX9_feed_0 rfl ?_
  obtain ⟨x1, e2, hf⟩ := ob hf
  refine ml_getI dX9_feed_1 fl_RX9_203 rfl e2 ?_
  refine mw_bipush (v := 20) dX9_feed_4 (by decide) ?_
  refine mw_iadd dX9_feed_6 ?_
  refine mw_sipush (v := 900) dX9_feed_7 (by decide) ?_
  refine mw_icmp_le (tgt := 15) dX9_feed_10 rfl (fun c3 => ?_) (fun c3 => ?_)
  · rw [if_pos c3] at hf
    refine mw_iconst (v := 0) dX9_feed_15 (by decide) ?_
    refine mw_istore dX9_feed_16 (by decide) rfl ?_
    obtain ⟨h21, e28, hf⟩ := ob hf
    refine MW.sub (subL_s (subL_s (subL_s (subL_s (subL_s (subL_s (subL_s (subL_n subL_nil)))))))) (tl_X9_feed_18 E d _ _ _ _ _ _ _ _ _ _ e28 ?_)
    refine mw_aload_n (x := (some a0)) dX9_feed_105 rfl ?_
    refine mw_dupq dX9_feed_106 ?_
    obtain ⟨x22, e23, hf⟩ := ob hf
    refine ml_getI dX9_feed_107 fl_RX9_203 rfl e23 ?_
    refine mw_bipush (v := 20) dX9_feed_110 (by decide) ?_
    refine mw_iadd dX9_feed_112 ?_
    obtain ⟨h24, e25, hf⟩ := ob hf
    refine ml_putI dX9_feed_113 fl_RX9_203 (Or.inl rfl) rfl rfl e25 ?_
    refine mw_aload_n (x := (some a0)) dX9_feed_116 rfl ?_
    obtain ⟨x26, e27, hf⟩ := ob hf
    refine ml_getI dX9_feed_117 fl_RX9_203 rfl e27 ?_
    obtain ⟨rfl, rfl⟩ := y1 hf
    exact mw_ireturn dX9_feed_120 rfl rfl hk
  · rw [if_neg c3] at hf
    refine mw_iconst (v := (-1)) dX9_feed_13 (by decide) ?_
    obtain ⟨rfl, rfl⟩ := y1 hf
    exact mw_ireturn dX9_feed_14 rfl rfl hk
def f_X9_holiday (a0 : Nat) (v1 : Int32) (v2 : Int32) (v3 : Int32) (v4 : Int32) (h : Hp) : Option (Int32 × Hp) :=
  (rc h (some a0) 8).bind fun g3 =>
  b1 (f_X9_isWorker g3 v1 h) fun x5 h1 =>
  b1 ((if x5 = (0 : Int32) then
      some ((-1), h1)
    else
      b1 (f_X9_isIn v2 (0 : Int32) (727 : Int32) h1) fun x26 h24 =>
      if x26 = (0 : Int32) then
        some ((-1), h24)
      else
        b1 (f_X9_isIn v3 (1 : Int32) (20 : Int32) h24) fun x30 h28 =>
        if x30 = (0 : Int32) then
          some ((-1), h28)
        else
          b1 (f_X9_isIn v4 (0 : Int32) (99999 : Int32) h28) fun x34 h32 =>
          if x34 = (0 : Int32) then
            some ((-1), h32)
          else
            (rc h32 (some a0) 8).bind fun g38 =>
            b1 (f_X9_fact g38 (3 : Int32) v1 v2 v3 v4 h32) fun x40 h36 =>
            some (x40, h36) : Option (Int32 × Hp))) fun w41 h42 =>
  some (w41, h42)
set_option maxHeartbeats 4000000 in
theorem t_X9_holiday (E : En) (d : Nat) {mc ms : Nat} {a0 : Nat} {v1 : Int32} {v2 : Int32} {v3 : Int32} {v4 : Int32} {h h' : Hp} {r : Int32} {K : Option Vv → Hp → Prop} (hf : f_X9_holiday a0 v1 v2 v3 v4 h = some (r, h')) (hk : K (some (vi r)) h') : MC E m_X9_holiday (d + 2) mc ms [vq (some a0), vi v1, vi v2, vi v3, vi v4] h K := by
  unfold f_X9_holiday at hf
  show MW E m_X9_holiday (d + 2) mc ms 0 [some (vq (some a0)), some (vi v1), some (vi v2), some (vi v3), some (vi v4)] [] h K
  refine mw_aload_n (x := (some a0)) dX9_holiday_0 rfl ?_
  refine mw_iload_n (x := v1) dX9_holiday_1 rfl ?_
  obtain ⟨g3, e4, hf⟩ := ob hf
  obtain ⟨x5, h1, e2, hf⟩ := ob1 hf
  refine ml_callV (ci := 8) (mc' := 0) (ms' := 0) [vi v1] dX9_holiday_2 mk_X9_isWorker lk_RX9_346 im_X9_isWorker se_X9_isWorker (by decide) e4 rfl (Nat.le_of_ble_eq_true rfl) (Nat.le_of_ble_eq_true rfl) (t_X9_isWorker E _ e2 isR_rfl) ?_
  obtain ⟨w41, h42, r43, hf⟩ := ob1 hf
  have J44 : MW E m_X9_holiday (d + 2) mc ms 55 [none, none, none, none, none] [vi w41] h42 K := by
    obtain ⟨rfl, rfl⟩ := y1 hf
    exact mw_ireturn dX9_holiday_55 rfl rfl hk
  refine mw_if_eq (tgt := 54) dX9_holiday_5 rfl (fun c6 => ?_) (fun c6 => ?_)
  · rw [if_pos c6] at r43
    refine mw_iconst (v := (-1)) dX9_holiday_54 (by decide) ?_
    obtain ⟨rfl, rfl⟩ := y1 r43
    exact MW.sub (subL_n (subL_n (subL_n (subL_n (subL_n subL_nil))))) J44
  · rw [if_neg c6] at r43
    refine mw_iload_n (x := v2) dX9_holiday_8 rfl ?_
    refine mw_iconst (v := 0) dX9_holiday_9 (by decide) ?_
    refine mw_sipush (v := 727) dX9_holiday_10 (by decide) ?_
    obtain ⟨x26, h24, e25, r43⟩ := ob1 r43
    refine ml_callS (mc' := 0) (ms' := 0) [vi v2, vi (0 : Int32), vi (727 : Int32)] dX9_holiday_13 mk_X9_isIn lk_RX9_333 st_X9_isIn rfl (Nat.le_of_ble_eq_true rfl) (Nat.le_of_ble_eq_true rfl) (t_X9_isIn E _ e25 isR_rfl) ?_
    refine mw_if_eq (tgt := 54) dX9_holiday_16 rfl (fun c27 => ?_) (fun c27 => ?_)
    · rw [if_pos c27] at r43
      refine mw_iconst (v := (-1)) dX9_holiday_54 (by decide) ?_
      obtain ⟨rfl, rfl⟩ := y1 r43
      exact MW.sub (subL_n (subL_n (subL_n (subL_n (subL_n subL_nil))))) J44
    · rw [if_neg c27] at r43
      refine mw_iload_n (x := v3) dX9_holiday_19 rfl ?_
      refine mw_iconst (v := 1) dX9_holiday_20 (by decide) ?_
      refine mw_bipush (v := 20) dX9_holiday_21 (by decide) ?_
      obtain ⟨x30, h28, e29, r43⟩ := ob1 r43
      refine ml_callS (mc' := 0) (ms' := 0) [vi v3, vi (1 : Int32), vi (20 : Int32)] dX9_holiday_23 mk_X9_isIn lk_RX9_333 st_X9_isIn rfl (Nat.le_of_ble_eq_true rfl) (Nat.le_of_ble_eq_true rfl) (t_X9_isIn E _ e29 isR_rfl) ?_
      refine mw_if_eq (tgt := 54) dX9_holiday_26 rfl (fun c31 => ?_) (fun c31 => ?_)
      · rw [if_pos c31] at r43
        refine mw_iconst (v := (-1)) dX9_holiday_54 (by decide) ?_
        obtain ⟨rfl, rfl⟩ := y1 r43
        exact MW.sub (subL_n (subL_n (subL_n (subL_n (subL_n subL_nil))))) J44
      · rw [if_neg c31] at r43
        refine mw_iload (x := v4) dX9_holiday_29 rfl ?_
        refine mw_iconst (v := 0) dX9_holiday_31 (by decide) ?_
        refine mw_ldcw dX9_holiday_32 kc_RX9_357 ?_
        obtain ⟨x34, h32, e33, r43⟩ := ob1 r43
        refine ml_callS (mc' := 0) (ms' := 0) [vi v4, vi (0 : Int32), vi (99999 : Int32)] dX9_holiday_35 mk_X9_isIn lk_RX9_333 st_X9_isIn rfl (Nat.le_of_ble_eq_true rfl) (Nat.le_of_ble_eq_true rfl) (t_X9_isIn E _ e33 isR_rfl) ?_
        refine mw_if_eq (tgt := 54) dX9_holiday_38 rfl (fun c35 => ?_) (fun c35 => ?_)
        · rw [if_pos c35] at r43
          refine mw_iconst (v := (-1)) dX9_holiday_54 (by decide) ?_
          obtain ⟨rfl, rfl⟩ := y1 r43
          exact MW.sub (subL_n (subL_n (subL_n (subL_n (subL_n subL_nil))))) J44
        · rw [if_neg c35] at r43
          refine mw_aload_n (x := (some a0)) dX9_holiday_41 rfl ?_
          refine mw_iconst (v := 3) dX9_holiday_42 (by decide) ?_
          refine mw_iload_n (x := v1) dX9_holiday_43 rfl ?_
          refine mw_iload_n (x := v2) dX9_holiday_44 rfl ?_
          refine mw_iload_n (x := v3) dX9_holiday_45 rfl ?_
          refine mw_iload (x := v4) dX9_holiday_46 rfl ?_
          obtain ⟨g38, e39, r43⟩ := ob r43
          obtain ⟨x40, h36, e37, r43⟩ := ob1 r43
          refine ml_callV (ci := 8) (mc' := 0) (ms' := 0) [vi (3 : Int32), vi v1, vi v2, vi v3, vi v4] dX9_holiday_48 mk_X9_fact lk_RX9_352 im_X9_fact se_X9_fact (by decide) e39 rfl (Nat.le_of_ble_eq_true rfl) (Nat.le_of_ble_eq_true rfl) (t_X9_fact E _ e37 isR_rfl) ?_
          refine mw_goto (tgt := 55) dX9_holiday_51 rfl ?_
          obtain ⟨rfl, rfl⟩ := y1 r43
          exact MW.sub (subL_n (subL_n (subL_n (subL_n (subL_n subL_nil))))) J44
def f_X9_init_L361 : Nat → Nat → Int32 → Hp → Option ((Hp))
  | 0, _, _, _ => none
  | n + 1, a0, v1, h =>
    if (4 : Int32) < v1 then
      some h
    else
      (rc h (some a0) 8).bind fun g176 =>
      (f_X9_clear g176 v1 h).bind fun h174 =>
      f_X9_init_L361 n a0 (v1 + 1) h174
def f_X9_init (a0 : Nat) (h : Hp) : Option (Hp) :=
  (rc h (some a0) 8).bind fun g1 =>
  (nln 920 920).bind fun n3 =>
  (putQ (nw h 9 n3) (some a0) 8 0 (some h.1.length)).bind fun h5 =>
  (nln 900 900).bind fun n7 =>
  (putQ (nw h5 9 n7) (some a0) 8 1 (some h5.1.length)).bind fun h9 =>
  (putI h9 (some a0) 8 5 (-1)).bind fun h11 =>
  (nln 35 35).bind fun n13 =>
  (putQ (nw h11 10 n13) (some a0) 8 11 (some h11.1.length)).bind fun h15 =>
  (nln 5 5).bind fun n17 =>
  (putQ (nw h15 10 n17) (some a0) 8 12 (some h15.1.length)).bind fun h19 =>
  (nln 5 5).bind fun n21 =>
  (putQ (nw h19 10 n21) (some a0) 8 13 (some h19.1.length)).bind fun h23 =>
  (nln 55 55).bind fun n25 =>
  (putQ (nw h23 10 n25) (some a0) 8 14 (some h23.1.length)).bind fun h27 =>
  (nln 55 55).bind fun n29 =>
  (putQ (nw h27 10 n29) (some a0) 8 15 (some h27.1.length)).bind fun h31 =>
  (nln 55 55).bind fun n33 =>
  (putQ (nw h31 10 n33) (some a0) 8 16 (some h31.1.length)).bind fun h35 =>
  (nln 55 55).bind fun n37 =>
  (putQ (nw h35 10 n37) (some a0) 8 17 (some h35.1.length)).bind fun h39 =>
  (nln 4500 4500).bind fun n41 =>
  (putQ (nw h39 10 n41) (some a0) 8 18 (some h39.1.length)).bind fun h43 =>
  (nln 4500 4500).bind fun n45 =>
  (putQ (nw h43 10 n45) (some a0) 8 19 (some h43.1.length)).bind fun h47 =>
  (nln 80 80).bind fun n49 =>
  (putQ (nw h47 10 n49) (some a0) 8 20 (some h47.1.length)).bind fun h51 =>
  (nln 80 80).bind fun n53 =>
  (putQ (nw h51 10 n53) (some a0) 8 21 (some h51.1.length)).bind fun h55 =>
  (nln 120 120).bind fun n57 =>
  (putQ (nw h55 10 n57) (some a0) 8 22 (some h55.1.length)).bind fun h59 =>
  (nln 35 35).bind fun n61 =>
  (putQ (nw h59 12 n61) (some a0) 8 23 (some h59.1.length)).bind fun h63 =>
  (nln 5 5).bind fun n65 =>
  (putQ (nw h63 12 n65) (some a0) 8 24 (some h63.1.length)).bind fun h67 =>
  (nln 10 10).bind fun n69 =>
  (putQ (nw h67 10 n69) (some a0) 8 30 (some h67.1.length)).bind fun h71 =>
  (nln 10 10).bind fun n73 =>
  (putQ (nw h71 10 n73) (some a0) 8 31 (some h71.1.length)).bind fun h75 =>
  (nln 250 250).bind fun n77 =>
  (putQ (nw h75 10 n77) (some a0) 8 32 (some h75.1.length)).bind fun h79 =>
  (nln 250 250).bind fun n81 =>
  (putQ (nw h79 10 n81) (some a0) 8 33 (some h79.1.length)).bind fun h83 =>
  (nln 250 250).bind fun n85 =>
  (putQ (nw h83 10 n85) (some a0) 8 34 (some h83.1.length)).bind fun h87 =>
  (nln 250 250).bind fun n89 =>
  (putQ (nw h87 10 n89) (some a0) 8 35 (some h87.1.length)).bind fun h91 =>
  (nln 250 250).bind fun n93 =>
  (putQ (nw h91 10 n93) (some a0) 8 36 (some h91.1.length)).bind fun h95 =>
  (nln 250 250).bind fun n97 =>
  (putQ (nw h95 10 n97) (some a0) 8 37 (some h95.1.length)).bind fun h99 =>
  (nln 250 250).bind fun n101 =>
  (putQ (nw h99 10 n101) (some a0) 8 38 (some h99.1.length)).bind fun h103 =>
  (nln 10 10).bind fun n105 =>
  (putQ (nw h103 12 n105) (some a0) 8 39 (some h103.1.length)).bind fun h107 =>
  (nln 624 624).bind fun n109 =>
  (putQ (nw h107 10 n109) (some a0) 8 43 (some h107.1.length)).bind fun h111 =>
  (nln 104 104).bind fun n113 =>
  (putQ (nw h111 10 n113) (some a0) 8 44 (some h111.1.length)).bind fun h115 =>
  (nln 104 104).bind fun n117 =>
  (putQ (nw h115 10 n117) (some a0) 8 45 (some h115.1.length)).bind fun h119 =>
  (nln 10 10).bind fun n121 =>
  (putQ (nw h119 10 n121) (some a0) 8 46 (some h119.1.length)).bind fun h123 =>
  (nln 104 104).bind fun n125 =>
  (putQ (nw h123 12 n125) (some a0) 8 47 (some h123.1.length)).bind fun h127 =>
  (nln 105 105).bind fun n129 =>
  (putQ (nw h127 11 n129) (some a0) 8 48 (some h127.1.length)).bind fun h131 =>
  (nln 104 104).bind fun n133 =>
  (putQ (nw h131 10 n133) (some a0) 8 52 (some h131.1.length)).bind fun h135 =>
  (nln 104 104).bind fun n137 =>
  (putQ (nw h135 10 n137) (some a0) 8 53 (some h135.1.length)).bind fun h139 =>
  (nln 104 104).bind fun n141 =>
  (putQ (nw h139 12 n141) (some a0) 8 54 (some h139.1.length)).bind fun h143 =>
  (nln 250 250).bind fun n145 =>
  (putQ (nw h143 10 n145) (some a0) 8 59 (some h143.1.length)).bind fun h147 =>
  (nln 250 250).bind fun n149 =>
  (putQ (nw h147 10 n149) (some a0) 8 60 (some h147.1.length)).bind fun h151 =>
  (nln 250 250).bind fun n153 =>
  (putQ (nw h151 10 n153) (some a0) 8 61 (some h151.1.length)).bind fun h155 =>
  (nln 250 250).bind fun n157 =>
  (putQ (nw h155 10 n157) (some a0) 8 62 (some h155.1.length)).bind fun h159 =>
  (nln 250 250).bind fun n161 =>
  (putQ (nw h159 10 n161) (some a0) 8 65 (some h159.1.length)).bind fun h163 =>
  (nln 10 10).bind fun n165 =>
  (putQ (nw h163 11 n165) (some a0) 8 67 (some h163.1.length)).bind fun h167 =>
  (nln 10 10).bind fun n169 =>
  (putQ (nw h167 10 n169) (some a0) 8 68 (some h167.1.length)).bind fun h171 =>
  (f_X9_init_L361 fu a0 0 h171).bind fun h178 =>
  some h178
set_option maxHeartbeats 4000000 in
theorem tl_X9_init_361 (E : En) (d : Nat) {mc ms : Nat} {K : Option Vv → Hp → Prop} : ∀ (n : Nat) (a0 : Nat) (v1 : Int32) (h : Hp) (hz : Hp), f_X9_init_L361 n a0 v1 h = some hz → MW E m_X9_init (d + 2) mc ms 377 [none, none] [] hz K → MW E m_X9_init (d + 2) mc ms 361 [some (vq (some a0)), some (vi v1)] [] h K := by
  intro n
  induction n with
  | zero => intro a0 v1 h hz hf; exact nomatch (show none = some _ from hf)
  | succ n ih =>
    intro a0 v1 h hz hf hX377
    rw [f_X9_init_L361] at hf
    refine mw_iload_n (x := v1) dX9_init_361 rfl ?_
    refine mw_iconst (v := 4) dX9_init_362 (by decide) ?_
    refine mw_icmp_gt (tgt := 377) dX9_init_363 rfl (fun c173 => ?_) (fun c173 => ?_)
    · rw [if_pos c173] at hf
      obtain rfl := y0 hf
      exact MW.sub (subL_n (subL_n subL_nil)) hX377
    · rw [if_neg c173] at hf
      refine mw_aload_n (x := (some a0)) dX9_init_366 rfl ?_
      refine mw_iload_n (x := v1) dX9_init_367 rfl ?_
      obtain ⟨g176, e177, hf⟩ := ob hf
      obtain ⟨h174, e175, hf⟩ := ob hf
      refine ml_callV (ci := 8) (mc' := 0) (ms' := 0) [vi v1] dX9_init_368 mk_X9_clear lk_RX9_196 im_X9_clear se_X9_clear (by decide) e177 rfl (Nat.le_of_ble_eq_true rfl) (Nat.le_of_ble_eq_true rfl) (t_X9_clear E _ e175 isR_rfl) ?_
      refine mw_iinc (x := v1) (v := v1 + 1) dX9_init_371 rfl rfl (by decide) rfl ?_
      refine mw_goto (tgt := 361) dX9_init_374 rfl ?_
      exact MW.sub (subL_s (subL_s subL_nil)) (ih _ _ _ _ hf hX377)
set_option maxHeartbeats 4000000 in
theorem t_X9_init (E : En) (d : Nat) {a0 : Nat} {h h' : Hp} {K : Option Vv → Hp → Prop} (hf : f_X9_init a0 h = some h') (hk : K none h') : MC E m_X9_init (d + 2) 42 15818 [vq (some a0)] h K := by
  unfold f_X9_init at hf
  show MW E m_X9_init (d + 2) 42 15818 0 [some (vq (some a0)), none] [] h K
  refine mw_aload_n (x := (some a0)) dX9_init_0 rfl ?_
  obtain ⟨g1, e2, hf⟩ := ob hf
  refine ml_objInit dX9_init_1 lk_RX9_82 oi_im oi_cd e2 (Nat.le_of_ble_eq_true rfl) ?_
  refine mw_aload_n (x := (some a0)) dX9_init_4 rfl ?_
  refine mw_sipush (v := 920) dX9_init_5 (by decide) ?_
  obtain ⟨n3, e4, hf⟩ := ob hf
  refine ml_newa (kd := 9) (most := 920) (mc := 41) (ms := 14898) dX9_init_8 rfl (by decide) ac_byte (by decide) e4 ?_
  obtain ⟨h5, e6, hf⟩ := ob hf
  refine ml_putQ dX9_init_10 fl_RX9_87 (Or.inr ⟨rfl, rfl, rfl⟩) rfl (Or.inr ⟨_, rfl⟩) e6 ?_
  refine mw_aload_n (x := (some a0)) dX9_init_13 rfl ?_
  refine mw_sipush (v := 900) dX9_init_14 (by decide) ?_
  obtain ⟨n7, e8, hf⟩ := ob hf
  refine ml_newa (kd := 9) (most := 900) (mc := 40) (ms := 13998) dX9_init_17 rfl (by decide) ac_byte (by decide) e8 ?_
  obtain ⟨h9, e10, hf⟩ := ob hf
  refine ml_putQ dX9_init_19 fl_RX9_7 (Or.inr ⟨rfl, rfl, rfl⟩) rfl (Or.inr ⟨_, rfl⟩) e10 ?_
  refine mw_aload_n (x := (some a0)) dX9_init_22 rfl ?_
  refine mw_iconst (v := (-1)) dX9_init_23 (by decide) ?_
  obtain ⟨h11, e12, hf⟩ := ob hf
  refine ml_putI dX9_init_24 fl_RX9_14 (Or.inl rfl) rfl rfl e12 ?_
  refine mw_aload_n (x := (some a0)) dX9_init_27 rfl ?_
  refine mw_bipush (v := 35) dX9_init_28 (by decide) ?_
  obtain ⟨n13, e14, hf⟩ := ob hf
  refine ml_newa (kd := 10) (most := 35) (mc := 39) (ms := 13963) dX9_init_30 rfl (by decide) ac_int (by decide) e14 ?_
  obtain ⟨h15, e16, hf⟩ := ob hf
  refine ml_putQ dX9_init_32 fl_RX9_62 (Or.inr ⟨rfl, rfl, rfl⟩) rfl (Or.inr ⟨_, rfl⟩) e16 ?_
  refine mw_aload_n (x := (some a0)) dX9_init_35 rfl ?_
  refine mw_iconst (v := 5) dX9_init_36 (by decide) ?_
  obtain ⟨n17, e18, hf⟩ := ob hf
  refine ml_newa (kd := 10) (most := 5) (mc := 38) (ms := 13958) dX9_init_37 rfl (by decide) ac_int (by decide) e18 ?_
  obtain ⟨h19, e20, hf⟩ := ob hf
  refine ml_putQ dX9_init_39 fl_RX9_73 (Or.inr ⟨rfl, rfl, rfl⟩) rfl (Or.inr ⟨_, rfl⟩) e20 ?_
  refine mw_aload_n (x := (some a0)) dX9_init_42 rfl ?_
  refine mw_iconst (v := 5) dX9_init_43 (by decide) ?_
  obtain ⟨n21, e22, hf⟩ := ob hf
  refine ml_newa (kd := 10) (most := 5) (mc := 37) (ms := 13953) dX9_init_44 rfl (by decide) ac_int (by decide) e22 ?_
  obtain ⟨h23, e24, hf⟩ := ob hf
  refine ml_putQ dX9_init_46 fl_RX9_76 (Or.inr ⟨rfl, rfl, rfl⟩) rfl (Or.inr ⟨_, rfl⟩) e24 ?_
  refine mw_aload_n (x := (some a0)) dX9_init_49 rfl ?_
  refine mw_bipush (v := 55) dX9_init_50 (by decide) ?_
  obtain ⟨n25, e26, hf⟩ := ob hf
  refine ml_newa (kd := 10) (most := 55) (mc := 36) (ms := 13898) dX9_init_52 rfl (by decide) ac_int (by decide) e26 ?_
  obtain ⟨h27, e28, hf⟩ := ob hf
  refine ml_putQ dX9_init_54 fl_RX9_90 (Or.inr ⟨rfl, rfl, rfl⟩) rfl (Or.inr ⟨_, rfl⟩) e28 ?_
  refine mw_aload_n (x := (some a0)) dX9_init_57 rfl ?_
  refine mw_bipush (v := 55) dX9_init_58 (by decide) ?_
  obtain ⟨n29, e30, hf⟩ := ob hf
  refine ml_newa (kd := 10) (most := 55) (mc := 35) (ms := 13843) dX9_init_60 rfl (by decide) ac_int (by decide) e30 ?_
  obtain ⟨h31, e32, hf⟩ := ob hf
  refine ml_putQ dX9_init_62 fl_RX9_93 (Or.inr ⟨rfl, rfl, rfl⟩) rfl (Or.inr ⟨_, rfl⟩) e32 ?_
  refine mw_aload_n (x := (some a0)) dX9_init_65 rfl ?_
  refine mw_bipush (v := 55) dX9_init_66 (by decide) ?_
  obtain ⟨n33, e34, hf⟩ := ob hf
  refine ml_newa (kd := 10) (most := 55) (mc := 34) (ms := 13788) dX9_init_68 rfl (by decide) ac_int (by decide) e34 ?_
  obtain ⟨h35, e36, hf⟩ := ob hf
  refine ml_putQ dX9_init_70 fl_RX9_96 (Or.inr ⟨rfl, rfl, rfl⟩) rfl (Or.inr ⟨_, rfl⟩) e36 ?_
  refine mw_aload_n (x := (some a0)) dX9_init_73 rfl ?_
  refine mw_bipush (v := 55) dX9_init_74 (by decide) ?_
  obtain ⟨n37, e38, hf⟩ := ob hf
  refine ml_newa (kd := 10) (most := 55) (mc := 33) (ms := 13733) dX9_init_76 rfl (by decide) ac_int (by decide) e38 ?_
  obtain ⟨h39, e40, hf⟩ := ob hf
  refine ml_putQ dX9_init_78 fl_RX9_99 (Or.inr ⟨rfl, rfl, rfl⟩) rfl (Or.inr ⟨_, rfl⟩) e40 ?_
  refine mw_aload_n (x := (some a0)) dX9_init_81 rfl ?_
  refine mw_sipush (v := 4500) dX9_init_82 (by decide) ?_
  obtain ⟨n41, e42, hf⟩ := ob hf
  refine ml_newa (kd := 10) (most := 4500) (mc := 32) (ms := 9233) dX9_init_85 rfl (by decide) ac_int (by decide) e42 ?_
  obtain ⟨h43, e44, hf⟩ := ob hf
  refine ml_putQ dX9_init_87 fl_RX9_102 (Or.inr ⟨rfl, rfl, rfl⟩) rfl (Or.inr ⟨_, rfl⟩) e44 ?_
  refine mw_aload_n (x := (some a0)) dX9_init_90 rfl ?_
  refine mw_sipush (v := 4500) dX9_init_91 (by decide) ?_
  obtain ⟨n45, e46, hf⟩ := ob hf
  refine ml_newa (kd := 10) (most := 4500) (mc := 31) (ms := 4733) dX9_init_94 rfl (by decide) ac_int (by decide) e46 ?_
  obtain ⟨h47, e48, hf⟩ := ob hf
  refine ml_putQ dX9_init_96 fl_RX9_105 (Or.inr ⟨rfl, rfl, rfl⟩) rfl (Or.inr ⟨_, rfl⟩) e48 ?_
  refine mw_aload_n (x := (some a0)) dX9_init_99 rfl ?_
  refine mw_bipush (v := 80) dX9_init_100 (by decide) ?_
  obtain ⟨n49, e50, hf⟩ := ob hf
  refine ml_newa (kd := 10) (most := 80) (mc := 30) (ms := 4653) dX9_init_102 rfl (by decide) ac_int (by decide) e50 ?_
  obtain ⟨h51, e52, hf⟩ := ob hf
  refine ml_putQ dX9_init_104 fl_RX9_108 (Or.inr ⟨rfl, rfl, rfl⟩) rfl (Or.inr ⟨_, rfl⟩) e52 ?_
  refine mw_aload_n (x := (some a0)) dX9_init_107 rfl ?_
  refine mw_bipush (v := 80) dX9_init_108 (by decide) ?_
  obtain ⟨n53, e54, hf⟩ := ob hf
  refine ml_newa (kd := 10) (most := 80) (mc := 29) (ms := 4573) dX9_init_110 rfl (by decide) ac_int (by decide) e54 ?_
  obtain ⟨h55, e56, hf⟩ := ob hf
  refine ml_putQ dX9_init_112 fl_RX9_111 (Or.inr ⟨rfl, rfl, rfl⟩) rfl (Or.inr ⟨_, rfl⟩) e56 ?_
  refine mw_aload_n (x := (some a0)) dX9_init_115 rfl ?_
  refine mw_bipush (v := 120) dX9_init_116 (by decide) ?_
  obtain ⟨n57, e58, hf⟩ := ob hf
  refine ml_newa (kd := 10) (most := 120) (mc := 28) (ms := 4453) dX9_init_118 rfl (by decide) ac_int (by decide) e58 ?_
  obtain ⟨h59, e60, hf⟩ := ob hf
  refine ml_putQ dX9_init_120 fl_RX9_114 (Or.inr ⟨rfl, rfl, rfl⟩) rfl (Or.inr ⟨_, rfl⟩) e60 ?_
  refine mw_aload_n (x := (some a0)) dX9_init_123 rfl ?_
  refine mw_bipush (v := 35) dX9_init_124 (by decide) ?_
  obtain ⟨n61, e62, hf⟩ := ob hf
  refine ml_newa (kd := 12) (most := 35) (mc := 27) (ms := 4418) dX9_init_126 rfl (by decide) ac_boolean (by decide) e62 ?_
  obtain ⟨h63, e64, hf⟩ := ob hf
  refine ml_putQ dX9_init_128 fl_RX9_69 (Or.inr ⟨rfl, rfl, rfl⟩) rfl (Or.inr ⟨_, rfl⟩) e64 ?_
  refine mw_aload_n (x := (some a0)) dX9_init_131 rfl ?_
  refine mw_iconst (v := 5) dX9_init_132 (by decide) ?_
  obtain ⟨n65, e66, hf⟩ := ob hf
  refine ml_newa (kd := 12) (most := 5) (mc := 26) (ms := 4413) dX9_init_133 rfl (by decide) ac_boolean (by decide) e66 ?_
  obtain ⟨h67, e68, hf⟩ := ob hf
  refine ml_putQ dX9_init_135 fl_RX9_79 (Or.inr ⟨rfl, rfl, rfl⟩) rfl (Or.inr ⟨_, rfl⟩) e68 ?_
  refine mw_aload_n (x := (some a0)) dX9_init_138 rfl ?_
  refine mw_bipush (v := 10) dX9_init_139 (by decide) ?_
  obtain ⟨n69, e70, hf⟩ := ob hf
  refine ml_newa (kd := 10) (most := 10) (mc := 25) (ms := 4403) dX9_init_141 rfl (by decide) ac_int (by decide) e70 ?_
  obtain ⟨h71, e72, hf⟩ := ob hf
  refine ml_putQ dX9_init_143 fl_RX9_117 (Or.inr ⟨rfl, rfl, rfl⟩) rfl (Or.inr ⟨_, rfl⟩) e72 ?_
  refine mw_aload_n (x := (some a0)) dX9_init_146 rfl ?_
  refine mw_bipush (v := 10) dX9_init_147 (by decide) ?_
  obtain ⟨n73, e74, hf⟩ := ob hf
  refine ml_newa (kd := 10) (most := 10) (mc := 24) (ms := 4393) dX9_init_149 rfl (by decide) ac_int (by decide) e74 ?_
  obtain ⟨h75, e76, hf⟩ := ob hf
  refine ml_putQ dX9_init_151 fl_RX9_120 (Or.inr ⟨rfl, rfl, rfl⟩) rfl (Or.inr ⟨_, rfl⟩) e76 ?_
  refine mw_aload_n (x := (some a0)) dX9_init_154 rfl ?_
  refine mw_sipush (v := 250) dX9_init_155 (by decide) ?_
  obtain ⟨n77, e78, hf⟩ := ob hf
  refine ml_newa (kd := 10) (most := 250) (mc := 23) (ms := 4143) dX9_init_158 rfl (by decide) ac_int (by decide) e78 ?_
  obtain ⟨h79, e80, hf⟩ := ob hf
  refine ml_putQ dX9_init_160 fl_RX9_123 (Or.inr ⟨rfl, rfl, rfl⟩) rfl (Or.inr ⟨_, rfl⟩) e80 ?_
  refine mw_aload_n (x := (some a0)) dX9_init_163 rfl ?_
  refine mw_sipush (v := 250) dX9_init_164 (by decide) ?_
  obtain ⟨n81, e82, hf⟩ := ob hf
  refine ml_newa (kd := 10) (most := 250) (mc := 22) (ms := 3893) dX9_init_167 rfl (by decide) ac_int (by decide) e82 ?_
  obtain ⟨h83, e84, hf⟩ := ob hf
  refine ml_putQ dX9_init_169 fl_RX9_126 (Or.inr ⟨rfl, rfl, rfl⟩) rfl (Or.inr ⟨_, rfl⟩) e84 ?_
  refine mw_aload_n (x := (some a0)) dX9_init_172 rfl ?_
  refine mw_sipush (v := 250) dX9_init_173 (by decide) ?_
  obtain ⟨n85, e86, hf⟩ := ob hf
  refine ml_newa (kd := 10) (most := 250) (mc := 21) (ms := 3643) dX9_init_176 rfl (by decide) ac_int (by decide) e86 ?_
  obtain ⟨h87, e88, hf⟩ := ob hf
  refine ml_putQ dX9_init_178 fl_RX9_129 (Or.inr ⟨rfl, rfl, rfl⟩) rfl (Or.inr ⟨_, rfl⟩) e88 ?_
  refine mw_aload_n (x := (some a0)) dX9_init_181 rfl ?_
  refine mw_sipush (v := 250) dX9_init_182 (by decide) ?_
  obtain ⟨n89, e90, hf⟩ := ob hf
  refine ml_newa (kd := 10) (most := 250) (mc := 20) (ms := 3393) dX9_init_185 rfl (by decide) ac_int (by decide) e90 ?_
  obtain ⟨h91, e92, hf⟩ := ob hf
  refine ml_putQ dX9_init_187 fl_RX9_132 (Or.inr ⟨rfl, rfl, rfl⟩) rfl (Or.inr ⟨_, rfl⟩) e92 ?_
  refine mw_aload_n (x := (some a0)) dX9_init_190 rfl ?_
  refine mw_sipush (v := 250) dX9_init_191 (by decide) ?_
  obtain ⟨n93, e94, hf⟩ := ob hf
  refine ml_newa (kd := 10) (most := 250) (mc := 19) (ms := 3143) dX9_init_194 rfl (by decide) ac_int (by decide) e94 ?_
  obtain ⟨h95, e96, hf⟩ := ob hf
  refine ml_putQ dX9_init_196 fl_RX9_135 (Or.inr ⟨rfl, rfl, rfl⟩) rfl (Or.inr ⟨_, rfl⟩) e96 ?_
  refine mw_aload_n (x := (some a0)) dX9_init_199 rfl ?_
  refine mw_sipush (v := 250) dX9_init_200 (by decide) ?_
  obtain ⟨n97, e98, hf⟩ := ob hf
  refine ml_newa (kd := 10) (most := 250) (mc := 18) (ms := 2893) dX9_init_203 rfl (by decide) ac_int (by decide) e98 ?_
  obtain ⟨h99, e100, hf⟩ := ob hf
  refine ml_putQ dX9_init_205 fl_RX9_138 (Or.inr ⟨rfl, rfl, rfl⟩) rfl (Or.inr ⟨_, rfl⟩) e100 ?_
  refine mw_aload_n (x := (some a0)) dX9_init_208 rfl ?_
  refine mw_sipush (v := 250) dX9_init_209 (by decide) ?_
  obtain ⟨n101, e102, hf⟩ := ob hf
  refine ml_newa (kd := 10) (most := 250) (mc := 17) (ms := 2643) dX9_init_212 rfl (by decide) ac_int (by decide) e102 ?_
  obtain ⟨h103, e104, hf⟩ := ob hf
  refine ml_putQ dX9_init_214 fl_RX9_141 (Or.inr ⟨rfl, rfl, rfl⟩) rfl (Or.inr ⟨_, rfl⟩) e104 ?_
  refine mw_aload_n (x := (some a0)) dX9_init_217 rfl ?_
  refine mw_bipush (v := 10) dX9_init_218 (by decide) ?_
  obtain ⟨n105, e106, hf⟩ := ob hf
  refine ml_newa (kd := 12) (most := 10) (mc := 16) (ms := 2633) dX9_init_220 rfl (by decide) ac_boolean (by decide) e106 ?_
  obtain ⟨h107, e108, hf⟩ := ob hf
  refine ml_putQ dX9_init_222 fl_RX9_144 (Or.inr ⟨rfl, rfl, rfl⟩) rfl (Or.inr ⟨_, rfl⟩) e108 ?_
  refine mw_aload_n (x := (some a0)) dX9_init_225 rfl ?_
  refine mw_sipush (v := 624) dX9_init_226 (by decide) ?_
  obtain ⟨n109, e110, hf⟩ := ob hf
  refine ml_newa (kd := 10) (most := 624) (mc := 15) (ms := 2009) dX9_init_229 rfl (by decide) ac_int (by decide) e110 ?_
  obtain ⟨h111, e112, hf⟩ := ob hf
  refine ml_putQ dX9_init_231 fl_RX9_147 (Or.inr ⟨rfl, rfl, rfl⟩) rfl (Or.inr ⟨_, rfl⟩) e112 ?_
  refine mw_aload_n (x := (some a0)) dX9_init_234 rfl ?_
  refine mw_bipush (v := 104) dX9_init_235 (by decide) ?_
  obtain ⟨n113, e114, hf⟩ := ob hf
  refine ml_newa (kd := 10) (most := 104) (mc := 14) (ms := 1905) dX9_init_237 rfl (by decide) ac_int (by decide) e114 ?_
  obtain ⟨h115, e116, hf⟩ := ob hf
  refine ml_putQ dX9_init_239 fl_RX9_150 (Or.inr ⟨rfl, rfl, rfl⟩) rfl (Or.inr ⟨_, rfl⟩) e116 ?_
  refine mw_aload_n (x := (some a0)) dX9_init_242 rfl ?_
  refine mw_bipush (v := 104) dX9_init_243 (by decide) ?_
  obtain ⟨n117, e118, hf⟩ := ob hf
  refine ml_newa (kd := 10) (most := 104) (mc := 13) (ms := 1801) dX9_init_245 rfl (by decide) ac_int (by decide) e118 ?_
  obtain ⟨h119, e120, hf⟩ := ob hf
  refine ml_putQ dX9_init_247 fl_RX9_153 (Or.inr ⟨rfl, rfl, rfl⟩) rfl (Or.inr ⟨_, rfl⟩) e120 ?_
  refine mw_aload_n (x := (some a0)) dX9_init_250 rfl ?_
  refine mw_bipush (v := 10) dX9_init_251 (by decide) ?_
  obtain ⟨n121, e122, hf⟩ := ob hf
  refine ml_newa (kd := 10) (most := 10) (mc := 12) (ms := 1791) dX9_init_253 rfl (by decide) ac_int (by decide) e122 ?_
  obtain ⟨h123, e124, hf⟩ := ob hf
  refine ml_putQ dX9_init_255 fl_RX9_156 (Or.inr ⟨rfl, rfl, rfl⟩) rfl (Or.inr ⟨_, rfl⟩) e124 ?_
  refine mw_aload_n (x := (some a0)) dX9_init_258 rfl ?_
  refine mw_bipush (v := 104) dX9_init_259 (by decide) ?_
  obtain ⟨n125, e126, hf⟩ := ob hf
  refine ml_newa (kd := 12) (most := 104) (mc := 11) (ms := 1687) dX9_init_261 rfl (by decide) ac_boolean (by decide) e126 ?_
  obtain ⟨h127, e128, hf⟩ := ob hf
  refine ml_putQ dX9_init_263 fl_RX9_159 (Or.inr ⟨rfl, rfl, rfl⟩) rfl (Or.inr ⟨_, rfl⟩) e128 ?_
  refine mw_aload_n (x := (some a0)) dX9_init_266 rfl ?_
  refine mw_bipush (v := 105) dX9_init_267 (by decide) ?_
  obtain ⟨n129, e130, hf⟩ := ob hf
  refine ml_newa (kd := 11) (most := 105) (mc := 10) (ms := 1582) dX9_init_269 rfl (by decide) ac_long (by decide) e130 ?_
  obtain ⟨h131, e132, hf⟩ := ob hf
  refine ml_putQ dX9_init_271 fl_RX9_162 (Or.inr ⟨rfl, rfl, rfl⟩) rfl (Or.inr ⟨_, rfl⟩) e132 ?_
  refine mw_aload_n (x := (some a0)) dX9_init_274 rfl ?_
  refine mw_bipush (v := 104) dX9_init_275 (by decide) ?_
  obtain ⟨n133, e134, hf⟩ := ob hf
  refine ml_newa (kd := 10) (most := 104) (mc := 9) (ms := 1478) dX9_init_277 rfl (by decide) ac_int (by decide) e134 ?_
  obtain ⟨h135, e136, hf⟩ := ob hf
  refine ml_putQ dX9_init_279 fl_RX9_166 (Or.inr ⟨rfl, rfl, rfl⟩) rfl (Or.inr ⟨_, rfl⟩) e136 ?_
  refine mw_aload_n (x := (some a0)) dX9_init_282 rfl ?_
  refine mw_bipush (v := 104) dX9_init_283 (by decide) ?_
  obtain ⟨n137, e138, hf⟩ := ob hf
  refine ml_newa (kd := 10) (most := 104) (mc := 8) (ms := 1374) dX9_init_285 rfl (by decide) ac_int (by decide) e138 ?_
  obtain ⟨h139, e140, hf⟩ := ob hf
  refine ml_putQ dX9_init_287 fl_RX9_169 (Or.inr ⟨rfl, rfl, rfl⟩) rfl (Or.inr ⟨_, rfl⟩) e140 ?_
  refine mw_aload_n (x := (some a0)) dX9_init_290 rfl ?_
  refine mw_bipush (v := 104) dX9_init_291 (by decide) ?_
  obtain ⟨n141, e142, hf⟩ := ob hf
  refine ml_newa (kd := 12) (most := 104) (mc := 7) (ms := 1270) dX9_init_293 rfl (by decide) ac_boolean (by decide) e142 ?_
  obtain ⟨h143, e144, hf⟩ := ob hf
  refine ml_putQ dX9_init_295 fl_RX9_172 (Or.inr ⟨rfl, rfl, rfl⟩) rfl (Or.inr ⟨_, rfl⟩) e144 ?_
  refine mw_aload_n (x := (some a0)) dX9_init_298 rfl ?_
  refine mw_sipush (v := 250) dX9_init_299 (by decide) ?_
  obtain ⟨n145, e146, hf⟩ := ob hf
  refine ml_newa (kd := 10) (most := 250) (mc := 6) (ms := 1020) dX9_init_302 rfl (by decide) ac_int (by decide) e146 ?_
  obtain ⟨h147, e148, hf⟩ := ob hf
  refine ml_putQ dX9_init_304 fl_RX9_175 (Or.inr ⟨rfl, rfl, rfl⟩) rfl (Or.inr ⟨_, rfl⟩) e148 ?_
  refine mw_aload_n (x := (some a0)) dX9_init_307 rfl ?_
  refine mw_sipush (v := 250) dX9_init_308 (by decide) ?_
  obtain ⟨n149, e150, hf⟩ := ob hf
  refine ml_newa (kd := 10) (most := 250) (mc := 5) (ms := 770) dX9_init_311 rfl (by decide) ac_int (by decide) e150 ?_
  obtain ⟨h151, e152, hf⟩ := ob hf
  refine ml_putQ dX9_init_313 fl_RX9_178 (Or.inr ⟨rfl, rfl, rfl⟩) rfl (Or.inr ⟨_, rfl⟩) e152 ?_
  refine mw_aload_n (x := (some a0)) dX9_init_316 rfl ?_
  refine mw_sipush (v := 250) dX9_init_317 (by decide) ?_
  obtain ⟨n153, e154, hf⟩ := ob hf
  refine ml_newa (kd := 10) (most := 250) (mc := 4) (ms := 520) dX9_init_320 rfl (by decide) ac_int (by decide) e154 ?_
  obtain ⟨h155, e156, hf⟩ := ob hf
  refine ml_putQ dX9_init_322 fl_RX9_181 (Or.inr ⟨rfl, rfl, rfl⟩) rfl (Or.inr ⟨_, rfl⟩) e156 ?_
  refine mw_aload_n (x := (some a0)) dX9_init_325 rfl ?_
  refine mw_sipush (v := 250) dX9_init_326 (by decide) ?_
  obtain ⟨n157, e158, hf⟩ := ob hf
  refine ml_newa (kd := 10) (most := 250) (mc := 3) (ms := 270) dX9_init_329 rfl (by decide) ac_int (by decide) e158 ?_
  obtain ⟨h159, e160, hf⟩ := ob hf
  refine ml_putQ dX9_init_331 fl_RX9_184 (Or.inr ⟨rfl, rfl, rfl⟩) rfl (Or.inr ⟨_, rfl⟩) e160 ?_
  refine mw_aload_n (x := (some a0)) dX9_init_334 rfl ?_
  refine mw_sipush (v := 250) dX9_init_335 (by decide) ?_
  obtain ⟨n161, e162, hf⟩ := ob hf
  refine ml_newa (kd := 10) (most := 250) (mc := 2) (ms := 20) dX9_init_338 rfl (by decide) ac_int (by decide) e162 ?_
  obtain ⟨h163, e164, hf⟩ := ob hf
  refine ml_putQ dX9_init_340 fl_RX9_187 (Or.inr ⟨rfl, rfl, rfl⟩) rfl (Or.inr ⟨_, rfl⟩) e164 ?_
  refine mw_aload_n (x := (some a0)) dX9_init_343 rfl ?_
  refine mw_bipush (v := 10) dX9_init_344 (by decide) ?_
  obtain ⟨n165, e166, hf⟩ := ob hf
  refine ml_newa (kd := 11) (most := 10) (mc := 1) (ms := 10) dX9_init_346 rfl (by decide) ac_long (by decide) e166 ?_
  obtain ⟨h167, e168, hf⟩ := ob hf
  refine ml_putQ dX9_init_348 fl_RX9_190 (Or.inr ⟨rfl, rfl, rfl⟩) rfl (Or.inr ⟨_, rfl⟩) e168 ?_
  refine mw_aload_n (x := (some a0)) dX9_init_351 rfl ?_
  refine mw_bipush (v := 10) dX9_init_352 (by decide) ?_
  obtain ⟨n169, e170, hf⟩ := ob hf
  refine ml_newa (kd := 10) (most := 10) (mc := 0) (ms := 0) dX9_init_354 rfl (by decide) ac_int (by decide) e170 ?_
  obtain ⟨h171, e172, hf⟩ := ob hf
  refine ml_putQ dX9_init_356 fl_RX9_193 (Or.inr ⟨rfl, rfl, rfl⟩) rfl (Or.inr ⟨_, rfl⟩) e172 ?_
  refine mw_iconst (v := 0) dX9_init_359 (by decide) ?_
  refine mw_istore_n dX9_init_360 (by decide) rfl ?_
  obtain ⟨h178, e179, hf⟩ := ob hf
  refine MW.sub (subL_s (subL_s subL_nil)) (tl_X9_init_361 E d _ _ _ _ _ e179 ?_)
  obtain rfl := y0 hf
  exact mw_return dX9_init_377 rfl hk
def f_X9_later (a0 : Nat) (v1 : Int32) (h : Hp) : Option (Int32 × Hp) :=
  if v1 < (0 : Int32) then
    some ((-1), h)
  else
    if (1000 : Int32) < v1 then
      some ((-1), h)
    else
      (getI h (some a0) 8 42).bind fun x3 =>
      if (x3 + v1) ≤ (100000 : Int32) then
        (getI h (some a0) 8 42).bind fun x6 =>
        (putI h (some a0) 8 42 (x6 + v1)).bind fun h8 =>
        (getI h8 (some a0) 8 42).bind fun x10 =>
        some (x10, h8)
      else
        some ((-1), h)
set_option maxHeartbeats 4000000 in
theorem t_X9_later (E : En) (d : Nat) {mc ms : Nat} {a0 : Nat} {v1 : Int32} {h h' : Hp} {r : Int32} {K : Option Vv → Hp → Prop} (hf : f_X9_later a0 v1 h = some (r, h')) (hk : K (some (vi r)) h') : MC E m_X9_later (d + 0) mc ms [vq (some a0), vi v1] h K := by
  unfold f_X9_later at hf
  show MW E m_X9_later (d + 0) mc ms 0 [some (vq (some a0)), some (vi v1)] [] h K
  refine mw_iload_n (x := v1) dX9_later_0 rfl ?_
  refine mw_if_lt (tgt := 23) dX9_later_1 rfl (fun c1 => ?_) (fun c1 => ?_)
  · rw [if_pos c1] at hf
    refine mw_iconst (v := (-1)) dX9_later_23 (by decide) ?_
    obtain ⟨rfl, rfl⟩ := y1 hf
    exact mw_ireturn dX9_later_24 rfl rfl hk
  · rw [if_neg c1] at hf
    refine mw_iload_n (x := v1) dX9_later_4 rfl ?_
    refine mw_sipush (v := 1000) dX9_later_5 (by decide) ?_
    refine mw_icmp_gt (tgt := 23) dX9_later_8 rfl (fun c2 => ?_) (fun c2 => ?_)
    · rw [if_pos c2] at hf
      refine mw_iconst (v := (-1)) dX9_later_23 (by decide) ?_
      obtain ⟨rfl, rfl⟩ := y1 hf
      exact mw_ireturn dX9_later_24 rfl rfl hk
    · rw [if_neg c2] at hf
      refine mw_aload_n (x := (some a0)) dX9_later_11 rfl ?_
      obtain ⟨x3, e4, hf⟩ := ob hf
      refine ml_getI dX9_later_12 fl_RX9_343 rfl e4 ?_
      refine mw_iload_n (x := v1) dX9_later_15 rfl ?_
      refine mw_iadd dX9_later_16 ?_
      refine mw_ldcw dX9_later_17 kc_RX9_358 ?_
      refine mw_icmp_le (tgt := 25) dX9_later_20 rfl (fun c5 => ?_) (fun c5 => ?_)
      · rw [if_pos c5] at hf
        refine mw_aload_n (x := (some a0)) dX9_later_25 rfl ?_
        refine mw_dupq dX9_later_26 ?_
        obtain ⟨x6, e7, hf⟩ := ob hf
        refine ml_getI dX9_later_27 fl_RX9_343 rfl e7 ?_
        refine mw_iload_n (x := v1) dX9_later_30 rfl ?_
        refine mw_iadd dX9_later_31 ?_
        obtain ⟨h8, e9, hf⟩ := ob hf
        refine ml_putI dX9_later_32 fl_RX9_343 (Or.inl rfl) rfl rfl e9 ?_
        refine mw_aload_n (x := (some a0)) dX9_later_35 rfl ?_
        obtain ⟨x10, e11, hf⟩ := ob hf
        refine ml_getI dX9_later_36 fl_RX9_343 rfl e11 ?_
        obtain ⟨rfl, rfl⟩ := y1 hf
        exact mw_ireturn dX9_later_39 rfl rfl hk
      · rw [if_neg c5] at hf
        refine mw_iconst (v := (-1)) dX9_later_23 (by decide) ?_
        obtain ⟨rfl, rfl⟩ := y1 hf
        exact mw_ireturn dX9_later_24 rfl rfl hk
def f_X9_link (a0 : Nat) (v1 : Int32) (v2 : Int32) (v3 : Int32) (v4 : Int32) (v5 : Int32) (h : Hp) : Option (Int32 × Hp) :=
  (rc h (some a0) 8).bind fun g3 =>
  b1 (f_X9_canChain g3 v1 v2 v4 v5 h) fun x5 h1 =>
  b1 ((if x5 = (0 : Int32) then
      some ((-1), h1)
    else
      if v3 < (0 : Int32) then
        some ((-1), h1)
      else
        (getI h1 (some a0) 8 64).bind fun x20 =>
        if x20 ≤ v3 then
          some ((-1), h1)
        else
          (getQ h1 (some a0) 8 59).bind fun x23 =>
          (getQ h1 (some a0) 8 62).bind fun x25 =>
          (rdI h1 x25 10 v3).bind fun x27 =>
          (rdI h1 x23 10 x27).bind fun x29 =>
          some (x29, h1) : Option (Int32 × Hp))) fun w31 h32 =>
  some (w31, h32)
set_option maxHeartbeats 4000000 in
theorem t_X9_link (E : En) (d : Nat) {mc ms : Nat} {a0 : Nat} {v1 : Int32} {v2 : Int32} {v3 : Int32} {v4 : Int32} {v5 : Int32} {h h' : Hp} {r : Int32} {K : Option Vv → Hp → Prop} (hf : f_X9_link a0 v1 v2 v3 v4 v5 h = some (r, h')) (hk : K (some (vi r)) h') : MC E m_X9_link (d + 8) mc ms [vq (some a0), vi v1, vi v2, vi v3, vi v4, vi v5] h K := by
  unfold f_X9_link at hf
  show MW E m_X9_link (d + 8) mc ms 0 [some (vq (some a0)), some (vi v1), some (vi v2), some (vi v3), some (vi v4), some (vi v5)] [] h K
  refine mw_aload_n (x := (some a0)) dX9_link_0 rfl ?_
  refine mw_iload_n (x := v1) dX9_link_1 rfl ?_
  refine mw_iload_n (x := v2) dX9_link_2 rfl ?_
  refine mw_iload (x := v4) dX9_link_3 rfl ?_
  refine mw_iload (x := v5) dX9_link_5 rfl ?_
  obtain ⟨g3, e4, hf⟩ := ob hf
  obtain ⟨x5, h1, e2, hf⟩ := ob1 hf
  refine ml_callV (ci := 8) (mc' := 0) (ms' := 0) [vi v1, vi v2, vi v4, vi v5] dX9_link_7 mk_X9_canChain lk_RX9_466 im_X9_canChain se_X9_canChain (by decide) e4 rfl (Nat.le_of_ble_eq_true rfl) (Nat.le_of_ble_eq_true rfl) (t_X9_canChain E _ e2 isR_rfl) ?_
  obtain ⟨w31, h32, r33, hf⟩ := ob1 hf
  have J34 : MW E m_X9_link (d + 8) mc ms 40 [none, none, none, none, none, none] [vi w31] h32 K := by
    obtain ⟨rfl, rfl⟩ := y1 hf
    exact mw_ireturn dX9_link_40 rfl rfl hk
  refine mw_if_eq (tgt := 39) dX9_link_10 rfl (fun c6 => ?_) (fun c6 => ?_)
  · rw [if_pos c6] at r33
    refine mw_iconst (v := (-1)) dX9_link_39 (by decide) ?_
    obtain ⟨rfl, rfl⟩ := y1 r33
    exact MW.sub (subL_n (subL_n (subL_n (subL_n (subL_n (subL_n subL_nil)))))) J34
  · rw [if_neg c6] at r33
    refine mw_iload_n (x := v3) dX9_link_13 rfl ?_
    refine mw_if_lt (tgt := 39) dX9_link_14 rfl (fun c19 => ?_) (fun c19 => ?_)
    · rw [if_pos c19] at r33
      refine mw_iconst (v := (-1)) dX9_link_39 (by decide) ?_
      obtain ⟨rfl, rfl⟩ := y1 r33
      exact MW.sub (subL_n (subL_n (subL_n (subL_n (subL_n (subL_n subL_nil)))))) J34
    · rw [if_neg c19] at r33
      refine mw_iload_n (x := v3) dX9_link_17 rfl ?_
      refine mw_aload_n (x := (some a0)) dX9_link_18 rfl ?_
      obtain ⟨x20, e21, r33⟩ := ob r33
      refine ml_getI dX9_link_19 fl_RX9_457 rfl e21 ?_
      refine mw_icmp_ge (tgt := 39) dX9_link_22 rfl (fun c22 => ?_) (fun c22 => ?_)
      · rw [if_pos c22] at r33
        refine mw_iconst (v := (-1)) dX9_link_39 (by decide) ?_
        obtain ⟨rfl, rfl⟩ := y1 r33
        exact MW.sub (subL_n (subL_n (subL_n (subL_n (subL_n (subL_n subL_nil)))))) J34
      · rw [if_neg c22] at r33
        refine mw_aload_n (x := (some a0)) dX9_link_25 rfl ?_
        obtain ⟨x23, e24, r33⟩ := ob r33
        refine ml_getQ dX9_link_26 fl_RX9_175 rfl e24 ?_
        refine mw_aload_n (x := (some a0)) dX9_link_29 rfl ?_
        obtain ⟨x25, e26, r33⟩ := ob r33
        refine ml_getQ dX9_link_30 fl_RX9_184 rfl e26 ?_
        refine mw_iload_n (x := v3) dX9_link_33 rfl ?_
        obtain ⟨x27, e28, r33⟩ := ob r33
        refine ml_iald dX9_link_34 e28 ?_
        obtain ⟨x29, e30, r33⟩ := ob r33
        refine ml_iald dX9_link_35 e30 ?_
        refine mw_goto (tgt := 40) dX9_link_36 rfl ?_
        obtain ⟨rfl, rfl⟩ := y1 r33
        exact MW.sub (subL_n (subL_n (subL_n (subL_n (subL_n (subL_n subL_nil)))))) J34
def f_X9_lost (a0 : Nat) (v1 : Int32) (v2 : Int32) (h : Hp) : Option (Int32 × Hp) :=
  (rc h (some a0) 8).bind fun g3 =>
  b1 (f_X9_isWorker g3 v1 h) fun x5 h1 =>
  b1 ((if x5 = (0 : Int32) then
      some ((-1), h1)
    else
      b1 (f_X9_isWeek v2 h1) fun x18 h16 =>
      if x18 = (0 : Int32) then
        some ((-1), h16)
      else
        (rc h16 (some a0) 8).bind fun g22 =>
        b1 (f_X9_fact g22 (1 : Int32) v1 v2 (0 : Int32) (0 : Int32) h16) fun x24 h20 =>
        some (x24, h20) : Option (Int32 × Hp))) fun w25 h26 =>
  some (w25, h26)
set_option maxHeartbeats 4000000 in
theorem t_X9_lost (E : En) (d : Nat) {mc ms : Nat} {a0 : Nat} {v1 : Int32} {v2 : Int32} {h h' : Hp} {r : Int32} {K : Option Vv → Hp → Prop} (hf : f_X9_lost a0 v1 v2 h = some (r, h')) (hk : K (some (vi r)) h') : MC E m_X9_lost (d + 2) mc ms [vq (some a0), vi v1, vi v2] h K := by
  unfold f_X9_lost at hf
  show MW E m_X9_lost (d + 2) mc ms 0 [some (vq (some a0)), some (vi v1), some (vi v2)] [] h K
  refine mw_aload_n (x := (some a0)) dX9_lost_0 rfl ?_
  refine mw_iload_n (x := v1) dX9_lost_1 rfl ?_
  obtain ⟨g3, e4, hf⟩ := ob hf
  obtain ⟨x5, h1, e2, hf⟩ := ob1 hf
  refine ml_callV (ci := 8) (mc' := 0) (ms' := 0) [vi v1] dX9_lost_2 mk_X9_isWorker lk_RX9_346 im_X9_isWorker se_X9_isWorker (by decide) e4 rfl (Nat.le_of_ble_eq_true rfl) (Nat.le_of_ble_eq_true rfl) (t_X9_isWorker E _ e2 isR_rfl) ?_
  obtain ⟨w25, h26, r27, hf⟩ := ob1 hf
  have J28 : MW E m_X9_lost (d + 2) mc ms 28 [none, none, none] [vi w25] h26 K := by
    obtain ⟨rfl, rfl⟩ := y1 hf
    exact mw_ireturn dX9_lost_28 rfl rfl hk
  refine mw_if_eq (tgt := 27) dX9_lost_5 rfl (fun c6 => ?_) (fun c6 => ?_)
  · rw [if_pos c6] at r27
    refine mw_iconst (v := (-1)) dX9_lost_27 (by decide) ?_
    obtain ⟨rfl, rfl⟩ := y1 r27
    exact MW.sub (subL_n (subL_n (subL_n subL_nil))) J28
  · rw [if_neg c6] at r27
    refine mw_iload_n (x := v2) dX9_lost_8 rfl ?_
    obtain ⟨x18, h16, e17, r27⟩ := ob1 r27
    refine ml_callS (mc' := 0) (ms' := 0) [vi v2] dX9_lost_9 mk_X9_isWeek lk_RX9_349 st_X9_isWeek rfl (Nat.le_of_ble_eq_true rfl) (Nat.le_of_ble_eq_true rfl) (t_X9_isWeek E _ e17 isR_rfl) ?_
    refine mw_if_eq (tgt := 27) dX9_lost_12 rfl (fun c19 => ?_) (fun c19 => ?_)
    · rw [if_pos c19] at r27
      refine mw_iconst (v := (-1)) dX9_lost_27 (by decide) ?_
      obtain ⟨rfl, rfl⟩ := y1 r27
      exact MW.sub (subL_n (subL_n (subL_n subL_nil))) J28
    · rw [if_neg c19] at r27
      refine mw_aload_n (x := (some a0)) dX9_lost_15 rfl ?_
      refine mw_iconst (v := 1) dX9_lost_16 (by decide) ?_
      refine mw_iload_n (x := v1) dX9_lost_17 rfl ?_
      refine mw_iload_n (x := v2) dX9_lost_18 rfl ?_
      refine mw_iconst (v := 0) dX9_lost_19 (by decide) ?_
      refine mw_iconst (v := 0) dX9_lost_20 (by decide) ?_
      obtain ⟨g22, e23, r27⟩ := ob r27
      obtain ⟨x24, h20, e21, r27⟩ := ob1 r27
      refine ml_callV (ci := 8) (mc' := 0) (ms' := 0) [vi (1 : Int32), vi v1, vi v2, vi (0 : Int32), vi (0 : Int32)] dX9_lost_21 mk_X9_fact lk_RX9_352 im_X9_fact se_X9_fact (by decide) e23 rfl (Nat.le_of_ble_eq_true rfl) (Nat.le_of_ble_eq_true rfl) (t_X9_fact E _ e21 isR_rfl) ?_
      refine mw_goto (tgt := 28) dX9_lost_24 rfl ?_
      obtain ⟨rfl, rfl⟩ := y1 r27
      exact MW.sub (subL_n (subL_n (subL_n subL_nil))) J28
