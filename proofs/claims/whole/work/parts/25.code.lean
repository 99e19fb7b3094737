theorem dX9_totalOf_0 : decode cX9_totalOf 0 = .ok (.iconst 0, 1) := by decide +kernel
theorem dX9_totalOf_1 : decode cX9_totalOf 1 = .ok (.istore_n 2, 1) := by decide +kernel
theorem dX9_totalOf_2 : decode cX9_totalOf 2 = .ok (.iconst 0, 1) := by decide +kernel
theorem dX9_totalOf_3 : decode cX9_totalOf 3 = .ok (.istore_n 3, 1) := by decide +kernel
theorem dX9_totalOf_4 : decode cX9_totalOf 4 = .ok (.iload_n 3, 1) := by decide +kernel
theorem dX9_totalOf_5 : decode cX9_totalOf 5 = .ok (.iconst 5, 1) := by decide +kernel
theorem dX9_totalOf_6 : decode cX9_totalOf 6 = .ok (.if_icmp .ge 23, 3) := by decide +kernel
theorem dX9_totalOf_9 : decode cX9_totalOf 9 = .ok (.iload_n 2, 1) := by decide +kernel
theorem dX9_totalOf_10 : decode cX9_totalOf 10 = .ok (.aload_n 0, 1) := by decide +kernel
theorem dX9_totalOf_11 : decode cX9_totalOf 11 = .ok (.getfield 147, 3) := by decide +kernel
theorem dX9_totalOf_14 : decode cX9_totalOf 14 = .ok (.bipush 6, 2) := by decide +kernel
theorem dX9_totalOf_16 : decode cX9_totalOf 16 = .ok (.iload_n 1, 1) := by decide +kernel
theorem dX9_totalOf_17 : decode cX9_totalOf 17 = .ok (.imul, 1) := by decide +kernel
theorem dX9_totalOf_18 : decode cX9_totalOf 18 = .ok (.iload_n 3, 1) := by decide +kernel
theorem dX9_totalOf_19 : decode cX9_totalOf 19 = .ok (.iadd, 1) := by decide +kernel
theorem dX9_totalOf_20 : decode cX9_totalOf 20 = .ok (.iaload, 1) := by decide +kernel
theorem dX9_totalOf_21 : decode cX9_totalOf 21 = .ok (.iadd, 1) := by decide +kernel
theorem dX9_totalOf_22 : decode cX9_totalOf 22 = .ok (.istore_n 2, 1) := by decide +kernel
theorem dX9_totalOf_23 : decode cX9_totalOf 23 = .ok (.iinc 3 1, 3) := by decide +kernel
theorem dX9_totalOf_26 : decode cX9_totalOf 26 = .ok (.goto (-22), 3) := by decide +kernel
theorem dX9_totalOf_29 : decode cX9_totalOf 29 = .ok (.iload_n 2, 1) := by decide +kernel
theorem dX9_totalOf_30 : decode cX9_totalOf 30 = .ok (.ireturn, 1) := by decide +kernel
theorem dX9_draw_0 : decode cX9_draw 0 = .ok (.aload_n 0, 1) := by decide +kernel
theorem dX9_draw_1 : decode cX9_draw 1 = .ok (.getfield 162, 3) := by decide +kernel
theorem dX9_draw_4 : decode cX9_draw 4 = .ok (.iload_n 1, 1) := by decide +kernel
theorem dX9_draw_5 : decode cX9_draw 5 = .ok (.laload, 1) := by decide +kernel
theorem dX9_draw_6 : decode cX9_draw 6 = .ok (.ldc2_w 375, 3) := by decide +kernel
theorem dX9_draw_9 : decode cX9_draw 9 = .ok (.lcmp, 1) := by decide +kernel
theorem dX9_draw_10 : decode cX9_draw 10 = .ok (.ifCond .ge 21, 3) := by decide +kernel
theorem dX9_draw_13 : decode cX9_draw 13 = .ok (.aload_n 0, 1) := by decide +kernel
theorem dX9_draw_14 : decode cX9_draw 14 = .ok (.getfield 162, 3) := by decide +kernel
theorem dX9_draw_17 : decode cX9_draw 17 = .ok (.iload_n 1, 1) := by decide +kernel
theorem dX9_draw_18 : decode cX9_draw 18 = .ok (.laload, 1) := by decide +kernel
theorem dX9_draw_19 : decode cX9_draw 19 = .ok (.lload_n 3, 1) := by decide +kernel
theorem dX9_draw_20 : decode cX9_draw 20 = .ok (.ladd, 1) := by decide +kernel
theorem dX9_draw_21 : decode cX9_draw 21 = .ok (.aload_n 0, 1) := by decide +kernel
theorem dX9_draw_22 : decode cX9_draw 22 = .ok (.getfield 162, 3) := by decide +kernel
theorem dX9_draw_25 : decode cX9_draw 25 = .ok (.iload_n 2, 1) := by decide +kernel
theorem dX9_draw_26 : decode cX9_draw 26 = .ok (.laload, 1) := by decide +kernel
theorem dX9_draw_27 : decode cX9_draw 27 = .ok (.lcmp, 1) := by decide +kernel
theorem dX9_draw_28 : decode cX9_draw 28 = .ok (.ifCond .lt 4, 3) := by decide +kernel
theorem dX9_draw_31 : decode cX9_draw 31 = .ok (.return_, 1) := by decide +kernel
theorem dX9_draw_32 : decode cX9_draw 32 = .ok (.aload_n 0, 1) := by decide +kernel
theorem dX9_draw_33 : decode cX9_draw 33 = .ok (.getfield 162, 3) := by decide +kernel
theorem dX9_draw_36 : decode cX9_draw 36 = .ok (.iload_n 2, 1) := by decide +kernel
theorem dX9_draw_37 : decode cX9_draw 37 = .ok (.aload_n 0, 1) := by decide +kernel
theorem dX9_draw_38 : decode cX9_draw 38 = .ok (.getfield 162, 3) := by decide +kernel
theorem dX9_draw_41 : decode cX9_draw 41 = .ok (.iload_n 1, 1) := by decide +kernel
theorem dX9_draw_42 : decode cX9_draw 42 = .ok (.laload, 1) := by decide +kernel
theorem dX9_draw_43 : decode cX9_draw 43 = .ok (.lload_n 3, 1) := by decide +kernel
theorem dX9_draw_44 : decode cX9_draw 44 = .ok (.ladd, 1) := by decide +kernel
theorem dX9_draw_45 : decode cX9_draw 45 = .ok (.lastore, 1) := by decide +kernel
theorem dX9_draw_46 : decode cX9_draw 46 = .ok (.aload_n 0, 1) := by decide +kernel
theorem dX9_draw_47 : decode cX9_draw 47 = .ok (.iconst 1, 1) := by decide +kernel
theorem dX9_draw_48 : decode cX9_draw 48 = .ok (.putfield 377, 3) := by decide +kernel
theorem dX9_draw_51 : decode cX9_draw 51 = .ok (.return_, 1) := by decide +kernel
theorem dX9_drawAll_0 : decode cX9_drawAll 0 = .ok (.iconst 0, 1) := by decide +kernel
theorem dX9_drawAll_1 : decode cX9_drawAll 1 = .ok (.istore_n 2, 1) := by decide +kernel
theorem dX9_drawAll_2 : decode cX9_drawAll 2 = .ok (.iload_n 2, 1) := by decide +kernel
theorem dX9_drawAll_3 : decode cX9_drawAll 3 = .ok (.bipush 104, 2) := by decide +kernel
theorem dX9_drawAll_5 : decode cX9_drawAll 5 = .ok (.if_icmp .ge 63, 3) := by decide +kernel
theorem dX9_drawAll_8 : decode cX9_drawAll 8 = .ok (.aload_n 0, 1) := by decide +kernel
theorem dX9_drawAll_9 : decode cX9_drawAll 9 = .ok (.getfield 159, 3) := by decide +kernel
theorem dX9_drawAll_12 : decode cX9_drawAll 12 = .ok (.iload_n 2, 1) := by decide +kernel
theorem dX9_drawAll_13 : decode cX9_drawAll 13 = .ok (.baload, 1) := by decide +kernel
theorem dX9_drawAll_14 : decode cX9_drawAll 14 = .ok (.ifCond .eq 7, 3) := by decide +kernel
theorem dX9_drawAll_17 : decode cX9_drawAll 17 = .ok (.lconst 0, 1) := by decide +kernel
theorem dX9_drawAll_18 : decode cX9_drawAll 18 = .ok (.goto 9, 3) := by decide +kernel
theorem dX9_drawAll_21 : decode cX9_drawAll 21 = .ok (.aload_n 0, 1) := by decide +kernel
theorem dX9_drawAll_22 : decode cX9_drawAll 22 = .ok (.iload_n 2, 1) := by decide +kernel
theorem dX9_drawAll_23 : decode cX9_drawAll 23 = .ok (.invokevirtual 381, 3) := by decide +kernel
theorem dX9_drawAll_26 : decode cX9_drawAll 26 = .ok (.i2l, 1) := by decide +kernel
theorem dX9_drawAll_27 : decode cX9_drawAll 27 = .ok (.lstore_n 3, 1) := by decide +kernel
theorem dX9_drawAll_28 : decode cX9_drawAll 28 = .ok (.aload_n 0, 1) := by decide +kernel
theorem dX9_drawAll_29 : decode cX9_drawAll 29 = .ok (.iload_n 2, 1) := by decide +kernel
theorem dX9_drawAll_30 : decode cX9_drawAll 30 = .ok (.iload_n 2, 1) := by decide +kernel
theorem dX9_drawAll_31 : decode cX9_drawAll 31 = .ok (.iconst 1, 1) := by decide +kernel
theorem dX9_drawAll_32 : decode cX9_drawAll 32 = .ok (.iadd, 1) := by decide +kernel
theorem dX9_drawAll_33 : decode cX9_drawAll 33 = .ok (.aload_n 0, 1) := by decide +kernel
theorem dX9_drawAll_34 : decode cX9_drawAll 34 = .ok (.getfield 159, 3) := by decide +kernel
theorem dX9_drawAll_37 : decode cX9_drawAll 37 = .ok (.iload_n 2, 1) := by decide +kernel
theorem dX9_drawAll_38 : decode cX9_drawAll 38 = .ok (.baload, 1) := by decide +kernel
theorem dX9_drawAll_39 : decode cX9_drawAll 39 = .ok (.ifCond .eq 9, 3) := by decide +kernel
theorem dX9_drawAll_42 : decode cX9_drawAll 42 = .ok (.ldc2_w 384, 3) := by decide +kernel
theorem dX9_drawAll_45 : decode cX9_drawAll 45 = .ok (.goto 4, 3) := by decide +kernel
theorem dX9_drawAll_48 : decode cX9_drawAll 48 = .ok (.lload_n 3, 1) := by decide +kernel
theorem dX9_drawAll_49 : decode cX9_drawAll 49 = .ok (.invokevirtual 386, 3) := by decide +kernel
theorem dX9_drawAll_52 : decode cX9_drawAll 52 = .ok (.aload_n 0, 1) := by decide +kernel
theorem dX9_drawAll_53 : decode cX9_drawAll 53 = .ok (.iload_n 2, 1) := by decide +kernel
theorem dX9_drawAll_54 : decode cX9_drawAll 54 = .ok (.iconst 1, 1) := by decide +kernel
theorem dX9_drawAll_55 : decode cX9_drawAll 55 = .ok (.iadd, 1) := by decide +kernel
theorem dX9_drawAll_56 : decode cX9_drawAll 56 = .ok (.iload_n 2, 1) := by decide +kernel
theorem dX9_drawAll_57 : decode cX9_drawAll 57 = .ok (.lload_n 3, 1) := by decide +kernel
theorem dX9_drawAll_58 : decode cX9_drawAll 58 = .ok (.lneg, 1) := by decide +kernel
theorem dX9_drawAll_59 : decode cX9_drawAll 59 = .ok (.invokevirtual 386, 3) := by decide +kernel
theorem dX9_drawAll_62 : decode cX9_drawAll 62 = .ok (.iinc 2 1, 3) := by decide +kernel
theorem dX9_drawAll_65 : decode cX9_drawAll 65 = .ok (.goto (-63), 3) := by decide +kernel
theorem dX9_drawAll_68 : decode cX9_drawAll 68 = .ok (.iconst 0, 1) := by decide +kernel
theorem dX9_drawAll_69 : decode cX9_drawAll 69 = .ok (.istore_n 2, 1) := by decide +kernel
theorem dX9_drawAll_70 : decode cX9_drawAll 70 = .ok (.iload_n 2, 1) := by decide +kernel
theorem dX9_drawAll_71 : decode cX9_drawAll 71 = .ok (.aload_n 0, 1) := by decide +kernel
theorem dX9_drawAll_72 : decode cX9_drawAll 72 = .ok (.getfield 359, 3) := by decide +kernel
theorem dX9_drawAll_75 : decode cX9_drawAll 75 = .ok (.if_icmp .ge 102, 3) := by decide +kernel
theorem dX9_drawAll_78 : decode cX9_drawAll 78 = .ok (.iload_n 1, 1) := by decide +kernel
theorem dX9_drawAll_79 : decode cX9_drawAll 79 = .ok (.iload_n 2, 1) := by decide +kernel
theorem dX9_drawAll_80 : decode cX9_drawAll 80 = .ok (.ishr, 1) := by decide +kernel
theorem dX9_drawAll_81 : decode cX9_drawAll 81 = .ok (.iconst 1, 1) := by decide +kernel
theorem dX9_drawAll_82 : decode cX9_drawAll 82 = .ok (.iand, 1) := by decide +kernel
theorem dX9_drawAll_83 : decode cX9_drawAll 83 = .ok (.iconst 1, 1) := by decide +kernel
theorem dX9_drawAll_84 : decode cX9_drawAll 84 = .ok (.if_icmp .ne 6, 3) := by decide +kernel
theorem dX9_drawAll_87 : decode cX9_drawAll 87 = .ok (.goto 84, 3) := by decide +kernel
theorem dX9_drawAll_90 : decode cX9_drawAll 90 = .ok (.aload_n 0, 1) := by decide +kernel
theorem dX9_drawAll_91 : decode cX9_drawAll 91 = .ok (.aload_n 0, 1) := by decide +kernel
theorem dX9_drawAll_92 : decode cX9_drawAll 92 = .ok (.getfield 129, 3) := by decide +kernel
theorem dX9_drawAll_95 : decode cX9_drawAll 95 = .ok (.aload_n 0, 1) := by decide +kernel
theorem dX9_drawAll_96 : decode cX9_drawAll 96 = .ok (.getfield 156, 3) := by decide +kernel
theorem dX9_drawAll_99 : decode cX9_drawAll 99 = .ok (.iload_n 2, 1) := by decide +kernel
theorem dX9_drawAll_100 : decode cX9_drawAll 100 = .ok (.iaload, 1) := by decide +kernel
theorem dX9_drawAll_101 : decode cX9_drawAll 101 = .ok (.iaload, 1) := by decide +kernel
theorem dX9_drawAll_102 : decode cX9_drawAll 102 = .ok (.aload_n 0, 1) := by decide +kernel
theorem dX9_drawAll_103 : decode cX9_drawAll 103 = .ok (.getfield 132, 3) := by decide +kernel
theorem dX9_drawAll_106 : decode cX9_drawAll 106 = .ok (.aload_n 0, 1) := by decide +kernel
theorem dX9_drawAll_107 : decode cX9_drawAll 107 = .ok (.getfield 156, 3) := by decide +kernel
theorem dX9_drawAll_110 : decode cX9_drawAll 110 = .ok (.iload_n 2, 1) := by decide +kernel
theorem dX9_drawAll_111 : decode cX9_drawAll 111 = .ok (.iaload, 1) := by decide +kernel
theorem dX9_drawAll_112 : decode cX9_drawAll 112 = .ok (.iaload, 1) := by decide +kernel
theorem dX9_drawAll_113 : decode cX9_drawAll 113 = .ok (.iconst 1, 1) := by decide +kernel
theorem dX9_drawAll_114 : decode cX9_drawAll 114 = .ok (.iadd, 1) := by decide +kernel
theorem dX9_drawAll_115 : decode cX9_drawAll 115 = .ok (.aload_n 0, 1) := by decide +kernel
theorem dX9_drawAll_116 : decode cX9_drawAll 116 = .ok (.getfield 135, 3) := by decide +kernel
theorem dX9_drawAll_119 : decode cX9_drawAll 119 = .ok (.aload_n 0, 1) := by decide +kernel
theorem dX9_drawAll_120 : decode cX9_drawAll 120 = .ok (.getfield 156, 3) := by decide +kernel
theorem dX9_drawAll_123 : decode cX9_drawAll 123 = .ok (.iload_n 2, 1) := by decide +kernel
theorem dX9_drawAll_124 : decode cX9_drawAll 124 = .ok (.iaload, 1) := by decide +kernel
theorem dX9_drawAll_125 : decode cX9_drawAll 125 = .ok (.iaload, 1) := by decide +kernel
theorem dX9_drawAll_126 : decode cX9_drawAll 126 = .ok (.i2l, 1) := by decide +kernel
theorem dX9_drawAll_127 : decode cX9_drawAll 127 = .ok (.invokevirtual 386, 3) := by decide +kernel
theorem dX9_drawAll_130 : decode cX9_drawAll 130 = .ok (.aload_n 0, 1) := by decide +kernel
theorem dX9_drawAll_131 : decode cX9_drawAll 131 = .ok (.aload_n 0, 1) := by decide +kernel
theorem dX9_drawAll_132 : decode cX9_drawAll 132 = .ok (.getfield 132, 3) := by decide +kernel
theorem dX9_drawAll_135 : decode cX9_drawAll 135 = .ok (.aload_n 0, 1) := by decide +kernel
theorem dX9_drawAll_136 : decode cX9_drawAll 136 = .ok (.getfield 156, 3) := by decide +kernel
theorem dX9_drawAll_139 : decode cX9_drawAll 139 = .ok (.iload_n 2, 1) := by decide +kernel
theorem dX9_drawAll_140 : decode cX9_drawAll 140 = .ok (.iaload, 1) := by decide +kernel
theorem dX9_drawAll_141 : decode cX9_drawAll 141 = .ok (.iaload, 1) := by decide +kernel
theorem dX9_drawAll_142 : decode cX9_drawAll 142 = .ok (.iconst 1, 1) := by decide +kernel
theorem dX9_drawAll_143 : decode cX9_drawAll 143 = .ok (.iadd, 1) := by decide +kernel
theorem dX9_drawAll_144 : decode cX9_drawAll 144 = .ok (.aload_n 0, 1) := by decide +kernel
theorem dX9_drawAll_145 : decode cX9_drawAll 145 = .ok (.getfield 129, 3) := by decide +kernel
theorem dX9_drawAll_148 : decode cX9_drawAll 148 = .ok (.aload_n 0, 1) := by decide +kernel
theorem dX9_drawAll_149 : decode cX9_drawAll 149 = .ok (.getfield 156, 3) := by decide +kernel
theorem dX9_drawAll_152 : decode cX9_drawAll 152 = .ok (.iload_n 2, 1) := by decide +kernel
theorem dX9_drawAll_153 : decode cX9_drawAll 153 = .ok (.iaload, 1) := by decide +kernel
theorem dX9_drawAll_154 : decode cX9_drawAll 154 = .ok (.iaload, 1) := by decide +kernel
theorem dX9_drawAll_155 : decode cX9_drawAll 155 = .ok (.aload_n 0, 1) := by decide +kernel
theorem dX9_drawAll_156 : decode cX9_drawAll 156 = .ok (.getfield 135, 3) := by decide +kernel
theorem dX9_drawAll_159 : decode cX9_drawAll 159 = .ok (.aload_n 0, 1) := by decide +kernel
theorem dX9_drawAll_160 : decode cX9_drawAll 160 = .ok (.getfield 156, 3) := by decide +kernel
theorem dX9_drawAll_163 : decode cX9_drawAll 163 = .ok (.iload_n 2, 1) := by decide +kernel
theorem dX9_drawAll_164 : decode cX9_drawAll 164 = .ok (.iaload, 1) := by decide +kernel
theorem dX9_drawAll_165 : decode cX9_drawAll 165 = .ok (.iaload, 1) := by decide +kernel
theorem dX9_drawAll_166 : decode cX9_drawAll 166 = .ok (.ineg, 1) := by decide +kernel
theorem dX9_drawAll_167 : decode cX9_drawAll 167 = .ok (.i2l, 1) := by decide +kernel
theorem dX9_drawAll_168 : decode cX9_drawAll 168 = .ok (.invokevirtual 386, 3) := by decide +kernel
theorem dX9_drawAll_171 : decode cX9_drawAll 171 = .ok (.iinc 2 1, 3) := by decide +kernel
theorem dX9_drawAll_174 : decode cX9_drawAll 174 = .ok (.goto (-104), 3) := by decide +kernel
theorem dX9_drawAll_177 : decode cX9_drawAll 177 = .ok (.return_, 1) := by decide +kernel
theorem dX9_canHold_0 : decode cX9_canHold 0 = .ok (.iconst 0, 1) := by decide +kernel
theorem dX9_canHold_1 : decode cX9_canHold 1 = .ok (.istore_n 2, 1) := by decide +kernel
theorem dX9_canHold_2 : decode cX9_canHold 2 = .ok (.iload_n 2, 1) := by decide +kernel
theorem dX9_canHold_3 : decode cX9_canHold 3 = .ok (.bipush 104, 2) := by decide +kernel
theorem dX9_canHold_5 : decode cX9_canHold 5 = .ok (.if_icmp .gt 16, 3) := by decide +kernel
theorem dX9_canHold_8 : decode cX9_canHold 8 = .ok (.aload_n 0, 1) := by decide +kernel
theorem dX9_canHold_9 : decode cX9_canHold 9 = .ok (.getfield 162, 3) := by decide +kernel
theorem dX9_canHold_12 : decode cX9_canHold 12 = .ok (.iload_n 2, 1) := by decide +kernel
theorem dX9_canHold_13 : decode cX9_canHold 13 = .ok (.lconst 0, 1) := by decide +kernel
theorem dX9_canHold_14 : decode cX9_canHold 14 = .ok (.lastore, 1) := by decide +kernel
theorem dX9_canHold_15 : decode cX9_canHold 15 = .ok (.iinc 2 1, 3) := by decide +kernel
theorem dX9_canHold_18 : decode cX9_canHold 18 = .ok (.goto (-16), 3) := by decide +kernel
theorem dX9_canHold_21 : decode cX9_canHold 21 = .ok (.aload_n 0, 1) := by decide +kernel
theorem dX9_canHold_22 : decode cX9_canHold 22 = .ok (.iconst 1, 1) := by decide +kernel
theorem dX9_canHold_23 : decode cX9_canHold 23 = .ok (.putfield 377, 3) := by decide +kernel
theorem dX9_canHold_26 : decode cX9_canHold 26 = .ok (.iconst 0, 1) := by decide +kernel
theorem dX9_canHold_27 : decode cX9_canHold 27 = .ok (.istore_n 2, 1) := by decide +kernel
theorem dX9_canHold_28 : decode cX9_canHold 28 = .ok (.iload_n 2, 1) := by decide +kernel
theorem dX9_canHold_29 : decode cX9_canHold 29 = .ok (.bipush 105, 2) := by decide +kernel
theorem dX9_canHold_31 : decode cX9_canHold 31 = .ok (.if_icmp .gt 26, 3) := by decide +kernel
theorem dX9_canHold_34 : decode cX9_canHold 34 = .ok (.aload_n 0, 1) := by decide +kernel
theorem dX9_canHold_35 : decode cX9_canHold 35 = .ok (.getfield 377, 3) := by decide +kernel
theorem dX9_canHold_38 : decode cX9_canHold 38 = .ok (.ifCond .eq 19, 3) := by decide +kernel
theorem dX9_canHold_41 : decode cX9_canHold 41 = .ok (.aload_n 0, 1) := by decide +kernel
theorem dX9_canHold_42 : decode cX9_canHold 42 = .ok (.iconst 0, 1) := by decide +kernel
theorem dX9_canHold_43 : decode cX9_canHold 43 = .ok (.putfield 377, 3) := by decide +kernel
theorem dX9_canHold_46 : decode cX9_canHold 46 = .ok (.aload_n 0, 1) := by decide +kernel
theorem dX9_canHold_47 : decode cX9_canHold 47 = .ok (.iload_n 1, 1) := by decide +kernel
theorem dX9_canHold_48 : decode cX9_canHold 48 = .ok (.invokevirtual 390, 3) := by decide +kernel
theorem dX9_canHold_51 : decode cX9_canHold 51 = .ok (.iinc 2 1, 3) := by decide +kernel
theorem dX9_canHold_54 : decode cX9_canHold 54 = .ok (.goto (-26), 3) := by decide +kernel
theorem dX9_canHold_57 : decode cX9_canHold 57 = .ok (.aload_n 0, 1) := by decide +kernel
theorem dX9_canHold_58 : decode cX9_canHold 58 = .ok (.getfield 377, 3) := by decide +kernel
theorem dX9_canHold_61 : decode cX9_canHold 61 = .ok (.ifCond .ne 7, 3) := by decide +kernel
theorem dX9_canHold_64 : decode cX9_canHold 64 = .ok (.iconst 1, 1) := by decide +kernel
theorem dX9_canHold_65 : decode cX9_canHold 65 = .ok (.goto 4, 3) := by decide +kernel
theorem dX9_canHold_68 : decode cX9_canHold 68 = .ok (.iconst 0, 1) := by decide +kernel
theorem dX9_canHold_69 : decode cX9_canHold 69 = .ok (.ireturn, 1) := by decide +kernel
theorem dX9_seekQuarrel_0 : decode cX9_seekQuarrel 0 = .ok (.iconst 0, 1) := by decide +kernel
theorem dX9_seekQuarrel_1 : decode cX9_seekQuarrel 1 = .ok (.istore_n 1, 1) := by decide +kernel
theorem dX9_seekQuarrel_2 : decode cX9_seekQuarrel 2 = .ok (.iload_n 1, 1) := by decide +kernel
theorem dX9_seekQuarrel_3 : decode cX9_seekQuarrel 3 = .ok (.iconst 3, 1) := by decide +kernel
theorem dX9_seekQuarrel_4 : decode cX9_seekQuarrel 4 = .ok (.if_icmp .gt 60, 3) := by decide +kernel
theorem dX9_seekQuarrel_7 : decode cX9_seekQuarrel 7 = .ok (.iload_n 1, 1) := by decide +kernel
theorem dX9_seekQuarrel_8 : decode cX9_seekQuarrel 8 = .ok (.aload_n 0, 1) := by decide +kernel
theorem dX9_seekQuarrel_9 : decode cX9_seekQuarrel 9 = .ok (.getfield 359, 3) := by decide +kernel
theorem dX9_seekQuarrel_12 : decode cX9_seekQuarrel 12 = .ok (.if_icmp .gt 52, 3) := by decide +kernel
theorem dX9_seekQuarrel_15 : decode cX9_seekQuarrel 15 = .ok (.iconst 0, 1) := by decide +kernel
theorem dX9_seekQuarrel_16 : decode cX9_seekQuarrel 16 = .ok (.istore_n 2, 1) := by decide +kernel
theorem dX9_seekQuarrel_17 : decode cX9_seekQuarrel 17 = .ok (.iload_n 2, 1) := by decide +kernel
theorem dX9_seekQuarrel_18 : decode cX9_seekQuarrel 18 = .ok (.iconst 1, 1) := by decide +kernel
theorem dX9_seekQuarrel_19 : decode cX9_seekQuarrel 19 = .ok (.aload_n 0, 1) := by decide +kernel
theorem dX9_seekQuarrel_20 : decode cX9_seekQuarrel 20 = .ok (.getfield 359, 3) := by decide +kernel
theorem dX9_seekQuarrel_23 : decode cX9_seekQuarrel 23 = .ok (.ishl, 1) := by decide +kernel
theorem dX9_seekQuarrel_24 : decode cX9_seekQuarrel 24 = .ok (.if_icmp .ge 34, 3) := by decide +kernel
theorem dX9_seekQuarrel_27 : decode cX9_seekQuarrel 27 = .ok (.iload_n 2, 1) := by decide +kernel
theorem dX9_seekQuarrel_28 : decode cX9_seekQuarrel 28 = .ok (.invokestatic 397, 3) := by decide +kernel
theorem dX9_seekQuarrel_31 : decode cX9_seekQuarrel 31 = .ok (.iload_n 1, 1) := by decide +kernel
theorem dX9_seekQuarrel_32 : decode cX9_seekQuarrel 32 = .ok (.if_icmp .ne 20, 3) := by decide +kernel
theorem dX9_seekQuarrel_35 : decode cX9_seekQuarrel 35 = .ok (.aload_n 0, 1) := by decide +kernel
theorem dX9_seekQuarrel_36 : decode cX9_seekQuarrel 36 = .ok (.iload_n 2, 1) := by decide +kernel
theorem dX9_seekQuarrel_37 : decode cX9_seekQuarrel 37 = .ok (.invokevirtual 400, 3) := by decide +kernel
theorem dX9_seekQuarrel_40 : decode cX9_seekQuarrel 40 = .ok (.ifCond .ne 6, 3) := by decide +kernel
theorem dX9_seekQuarrel_43 : decode cX9_seekQuarrel 43 = .ok (.goto 9, 3) := by decide +kernel
theorem dX9_seekQuarrel_46 : decode cX9_seekQuarrel 46 = .ok (.aload_n 0, 1) := by decide +kernel
theorem dX9_seekQuarrel_47 : decode cX9_seekQuarrel 47 = .ok (.iload_n 2, 1) := by decide +kernel
theorem dX9_seekQuarrel_48 : decode cX9_seekQuarrel 48 = .ok (.putfield 369, 3) := by decide +kernel
theorem dX9_seekQuarrel_51 : decode cX9_seekQuarrel 51 = .ok (.return_, 1) := by decide +kernel
theorem dX9_seekQuarrel_52 : decode cX9_seekQuarrel 52 = .ok (.iinc 2 1, 3) := by decide +kernel
theorem dX9_seekQuarrel_55 : decode cX9_seekQuarrel 55 = .ok (.goto (-38), 3) := by decide +kernel
theorem dX9_seekQuarrel_58 : decode cX9_seekQuarrel 58 = .ok (.iinc 1 1, 3) := by decide +kernel
theorem dX9_seekQuarrel_61 : decode cX9_seekQuarrel 61 = .ok (.goto (-59), 3) := by decide +kernel
theorem dX9_seekQuarrel_64 : decode cX9_seekQuarrel 64 = .ok (.aload_n 0, 1) := by decide +kernel
theorem dX9_seekQuarrel_65 : decode cX9_seekQuarrel 65 = .ok (.iconst (-1), 1) := by decide +kernel
theorem dX9_seekQuarrel_66 : decode cX9_seekQuarrel 66 = .ok (.putfield 369, 3) := by decide +kernel
theorem dX9_seekQuarrel_69 : decode cX9_seekQuarrel 69 = .ok (.return_, 1) := by decide +kernel
theorem dX9_most_0 : decode cX9_most 0 = .ok (.iconst 0, 1) := by decide +kernel
theorem dX9_most_1 : decode cX9_most 1 = .ok (.istore 4, 2) := by decide +kernel
theorem dX9_most_3 : decode cX9_most 3 = .ok (.iload 4, 2) := by decide +kernel
theorem dX9_most_5 : decode cX9_most 5 = .ok (.bipush 104, 2) := by decide +kernel
theorem dX9_most_7 : decode cX9_most 7 = .ok (.if_icmp .gt 29, 3) := by decide +kernel
theorem dX9_most_10 : decode cX9_most 10 = .ok (.aload_n 0, 1) := by decide +kernel
theorem dX9_most_11 : decode cX9_most 11 = .ok (.getfield 162, 3) := by decide +kernel
theorem dX9_most_14 : decode cX9_most 14 = .ok (.iload 4, 2) := by decide +kernel
theorem dX9_most_16 : decode cX9_most 16 = .ok (.iload 4, 2) := by decide +kernel
theorem dX9_most_18 : decode cX9_most 18 = .ok (.iload_n 1, 1) := by decide +kernel
theorem dX9_most_19 : decode cX9_most 19 = .ok (.if_icmp .ne 7, 3) := by decide +kernel
theorem dX9_most_22 : decode cX9_most 22 = .ok (.lconst 0, 1) := by decide +kernel
theorem dX9_most_23 : decode cX9_most 23 = .ok (.goto 6, 3) := by decide +kernel
theorem dX9_most_26 : decode cX9_most 26 = .ok (.ldc2_w 375, 3) := by decide +kernel
theorem dX9_most_29 : decode cX9_most 29 = .ok (.lastore, 1) := by decide +kernel
theorem dX9_most_30 : decode cX9_most 30 = .ok (.iinc 4 1, 3) := by decide +kernel
theorem dX9_most_33 : decode cX9_most 33 = .ok (.goto (-30), 3) := by decide +kernel
theorem dX9_most_36 : decode cX9_most 36 = .ok (.aload_n 0, 1) := by decide +kernel
theorem dX9_most_37 : decode cX9_most 37 = .ok (.iconst 1, 1) := by decide +kernel
theorem dX9_most_38 : decode cX9_most 38 = .ok (.putfield 377, 3) := by decide +kernel
theorem dX9_most_41 : decode cX9_most 41 = .ok (.aload_n 0, 1) := by decide +kernel
theorem dX9_most_42 : decode cX9_most 42 = .ok (.getfield 377, 3) := by decide +kernel
theorem dX9_most_45 : decode cX9_most 45 = .ok (.ifCond .eq 16, 3) := by decide +kernel
theorem dX9_most_48 : decode cX9_most 48 = .ok (.aload_n 0, 1) := by decide +kernel
theorem dX9_most_49 : decode cX9_most 49 = .ok (.iconst 0, 1) := by decide +kernel
theorem dX9_most_50 : decode cX9_most 50 = .ok (.putfield 377, 3) := by decide +kernel
theorem dX9_most_53 : decode cX9_most 53 = .ok (.aload_n 0, 1) := by decide +kernel
theorem dX9_most_54 : decode cX9_most 54 = .ok (.iload_n 3, 1) := by decide +kernel
theorem dX9_most_55 : decode cX9_most 55 = .ok (.invokevirtual 390, 3) := by decide +kernel
theorem dX9_most_58 : decode cX9_most 58 = .ok (.goto (-17), 3) := by decide +kernel
theorem dX9_most_61 : decode cX9_most 61 = .ok (.aload_n 0, 1) := by decide +kernel
theorem dX9_most_62 : decode cX9_most 62 = .ok (.getfield 162, 3) := by decide +kernel
theorem dX9_most_65 : decode cX9_most 65 = .ok (.iload_n 2, 1) := by decide +kernel
theorem dX9_most_66 : decode cX9_most 66 = .ok (.laload, 1) := by decide +kernel
theorem dX9_most_67 : decode cX9_most 67 = .ok (.lreturn, 1) := by decide +kernel
theorem dX9_spread_0 : decode cX9_spread 0 = .ok (.aload_n 0, 1) := by decide +kernel
theorem dX9_spread_1 : decode cX9_spread 1 = .ok (.getfield 153, 3) := by decide +kernel
theorem dX9_spread_4 : decode cX9_spread 4 = .ok (.iload_n 1, 1) := by decide +kernel
theorem dX9_spread_5 : decode cX9_spread 5 = .ok (.aload_n 0, 1) := by decide +kernel
theorem dX9_spread_6 : decode cX9_spread 6 = .ok (.iload_n 1, 1) := by decide +kernel
theorem dX9_spread_7 : decode cX9_spread 7 = .ok (.iload_n 1, 1) := by decide +kernel
theorem dX9_spread_8 : decode cX9_spread 8 = .ok (.iconst 1, 1) := by decide +kernel
theorem dX9_spread_9 : decode cX9_spread 9 = .ok (.iadd, 1) := by decide +kernel
theorem dX9_spread_10 : decode cX9_spread 10 = .ok (.iload_n 2, 1) := by decide +kernel
theorem dX9_spread_11 : decode cX9_spread 11 = .ok (.invokevirtual 393, 3) := by decide +kernel
theorem dX9_spread_14 : decode cX9_spread 14 = .ok (.l2i, 1) := by decide +kernel
theorem dX9_spread_15 : decode cX9_spread 15 = .ok (.iastore, 1) := by decide +kernel
theorem dX9_spread_16 : decode cX9_spread 16 = .ok (.aload_n 0, 1) := by decide +kernel
theorem dX9_spread_17 : decode cX9_spread 17 = .ok (.getfield 150, 3) := by decide +kernel
theorem dX9_spread_20 : decode cX9_spread 20 = .ok (.iload_n 1, 1) := by decide +kernel
theorem dX9_spread_21 : decode cX9_spread 21 = .ok (.aload_n 0, 1) := by decide +kernel
theorem dX9_spread_22 : decode cX9_spread 22 = .ok (.iload_n 1, 1) := by decide +kernel
theorem dX9_spread_23 : decode cX9_spread 23 = .ok (.iconst 1, 1) := by decide +kernel
theorem dX9_spread_24 : decode cX9_spread 24 = .ok (.iadd, 1) := by decide +kernel
theorem dX9_spread_25 : decode cX9_spread 25 = .ok (.iload_n 1, 1) := by decide +kernel
theorem dX9_spread_26 : decode cX9_spread 26 = .ok (.iload_n 2, 1) := by decide +kernel
theorem dX9_spread_27 : decode cX9_spread 27 = .ok (.invokevirtual 393, 3) := by decide +kernel
theorem dX9_spread_30 : decode cX9_spread 30 = .ok (.lneg, 1) := by decide +kernel
theorem dX9_spread_31 : decode cX9_spread 31 = .ok (.l2i, 1) := by decide +kernel
theorem dX9_spread_32 : decode cX9_spread 32 = .ok (.iastore, 1) := by decide +kernel
theorem dX9_spread_33 : decode cX9_spread 33 = .ok (.return_, 1) := by decide +kernel
theorem dX9_know_0 : decode cX9_know 0 = .ok (.iconst 0, 1) := by decide +kernel
theorem dX9_know_1 : decode cX9_know 1 = .ok (.istore_n 3, 1) := by decide +kernel
theorem dX9_know_2 : decode cX9_know 2 = .ok (.iload_n 3, 1) := by decide +kernel
theorem dX9_know_3 : decode cX9_know 3 = .ok (.sipush 624, 3) := by decide +kernel
theorem dX9_know_6 : decode cX9_know 6 = .ok (.if_icmp .ge 16, 3) := by decide +kernel
theorem dX9_know_9 : decode cX9_know 9 = .ok (.aload_n 0, 1) := by decide +kernel
theorem dX9_know_10 : decode cX9_know 10 = .ok (.getfield 147, 3) := by decide +kernel
theorem dX9_know_13 : decode cX9_know 13 = .ok (.iload_n 3, 1) := by decide +kernel
theorem dX9_know_14 : decode cX9_know 14 = .ok (.iconst 0, 1) := by decide +kernel
theorem dX9_know_15 : decode cX9_know 15 = .ok (.iastore, 1) := by decide +kernel
theorem dX9_know_16 : decode cX9_know 16 = .ok (.iinc 3 1, 3) := by decide +kernel
theorem dX9_know_19 : decode cX9_know 19 = .ok (.goto (-17), 3) := by decide +kernel
theorem dX9_know_22 : decode cX9_know 22 = .ok (.iconst 0, 1) := by decide +kernel
theorem dX9_know_23 : decode cX9_know 23 = .ok (.istore_n 3, 1) := by decide +kernel
theorem dX9_know_24 : decode cX9_know 24 = .ok (.iload_n 3, 1) := by decide +kernel
theorem dX9_know_25 : decode cX9_know 25 = .ok (.bipush 104, 2) := by decide +kernel
theorem dX9_know_27 : decode cX9_know 27 = .ok (.if_icmp .ge 16, 3) := by decide +kernel
theorem dX9_know_30 : decode cX9_know 30 = .ok (.aload_n 0, 1) := by decide +kernel
theorem dX9_know_31 : decode cX9_know 31 = .ok (.getfield 159, 3) := by decide +kernel
theorem dX9_know_34 : decode cX9_know 34 = .ok (.iload_n 3, 1) := by decide +kernel
theorem dX9_know_35 : decode cX9_know 35 = .ok (.iconst 0, 1) := by decide +kernel
theorem dX9_know_36 : decode cX9_know 36 = .ok (.bastore, 1) := by decide +kernel
theorem dX9_know_37 : decode cX9_know 37 = .ok (.iinc 3 1, 3) := by decide +kernel
theorem dX9_know_40 : decode cX9_know 40 = .ok (.goto (-16), 3) := by decide +kernel
theorem dX9_know_43 : decode cX9_know 43 = .ok (.aload_n 0, 1) := by decide +kernel
theorem dX9_know_44 : decode cX9_know 44 = .ok (.iconst 0, 1) := by decide +kernel
theorem dX9_know_45 : decode cX9_know 45 = .ok (.putfield 359, 3) := by decide +kernel
theorem dX9_know_48 : decode cX9_know 48 = .ok (.iconst 0, 1) := by decide +kernel
theorem dX9_know_49 : decode cX9_know 49 = .ok (.istore_n 3, 1) := by decide +kernel
theorem dX9_know_50 : decode cX9_know 50 = .ok (.iload_n 3, 1) := by decide +kernel
theorem dX9_know_51 : decode cX9_know 51 = .ok (.aload_n 0, 1) := by decide +kernel
theorem dX9_know_52 : decode cX9_know 52 = .ok (.getfield 340, 3) := by decide +kernel
theorem dX9_know_55 : decode cX9_know 55 = .ok (.if_icmp .ge 104, 3) := by decide +kernel
theorem dX9_know_58 : decode cX9_know 58 = .ok (.aload_n 0, 1) := by decide +kernel
theorem dX9_know_59 : decode cX9_know 59 = .ok (.iload_n 3, 1) := by decide +kernel
theorem dX9_know_60 : decode cX9_know 60 = .ok (.iconst 0, 1) := by decide +kernel
theorem dX9_know_61 : decode cX9_know 61 = .ok (.iload_n 1, 1) := by decide +kernel
theorem dX9_know_62 : decode cX9_know 62 = .ok (.iload_n 2, 1) := by decide +kernel
theorem dX9_know_63 : decode cX9_know 63 = .ok (.invokevirtual 362, 3) := by decide +kernel
theorem dX9_know_66 : decode cX9_know 66 = .ok (.ifCond .eq 30, 3) := by decide +kernel
theorem dX9_know_69 : decode cX9_know 69 = .ok (.aload_n 0, 1) := by decide +kernel
theorem dX9_know_70 : decode cX9_know 70 = .ok (.getfield 147, 3) := by decide +kernel
theorem dX9_know_73 : decode cX9_know 73 = .ok (.bipush 6, 2) := by decide +kernel
theorem dX9_know_75 : decode cX9_know 75 = .ok (.aload_n 0, 1) := by decide +kernel
theorem dX9_know_76 : decode cX9_know 76 = .ok (.getfield 129, 3) := by decide +kernel
theorem dX9_know_79 : decode cX9_know 79 = .ok (.iload_n 3, 1) := by decide +kernel
theorem dX9_know_80 : decode cX9_know 80 = .ok (.iaload, 1) := by decide +kernel
theorem dX9_know_81 : decode cX9_know 81 = .ok (.imul, 1) := by decide +kernel
theorem dX9_know_82 : decode cX9_know 82 = .ok (.aload_n 0, 1) := by decide +kernel
theorem dX9_know_83 : decode cX9_know 83 = .ok (.getfield 132, 3) := by decide +kernel
theorem dX9_know_86 : decode cX9_know 86 = .ok (.iload_n 3, 1) := by decide +kernel
theorem dX9_know_87 : decode cX9_know 87 = .ok (.iaload, 1) := by decide +kernel
theorem dX9_know_88 : decode cX9_know 88 = .ok (.iadd, 1) := by decide +kernel
theorem dX9_know_89 : decode cX9_know 89 = .ok (.aload_n 0, 1) := by decide +kernel
theorem dX9_know_90 : decode cX9_know 90 = .ok (.getfield 135, 3) := by decide +kernel
theorem dX9_know_93 : decode cX9_know 93 = .ok (.iload_n 3, 1) := by decide +kernel
theorem dX9_know_94 : decode cX9_know 94 = .ok (.iaload, 1) := by decide +kernel
theorem dX9_know_95 : decode cX9_know 95 = .ok (.iastore, 1) := by decide +kernel
theorem dX9_know_96 : decode cX9_know 96 = .ok (.aload_n 0, 1) := by decide +kernel
theorem dX9_know_97 : decode cX9_know 97 = .ok (.iload_n 3, 1) := by decide +kernel
theorem dX9_know_98 : decode cX9_know 98 = .ok (.iconst 1, 1) := by decide +kernel
theorem dX9_know_99 : decode cX9_know 99 = .ok (.iload_n 1, 1) := by decide +kernel
theorem dX9_know_100 : decode cX9_know 100 = .ok (.iload_n 2, 1) := by decide +kernel
theorem dX9_know_101 : decode cX9_know 101 = .ok (.invokevirtual 362, 3) := by decide +kernel
theorem dX9_know_104 : decode cX9_know 104 = .ok (.ifCond .eq 15, 3) := by decide +kernel
theorem dX9_know_107 : decode cX9_know 107 = .ok (.aload_n 0, 1) := by decide +kernel
theorem dX9_know_108 : decode cX9_know 108 = .ok (.getfield 159, 3) := by decide +kernel
theorem dX9_know_111 : decode cX9_know 111 = .ok (.aload_n 0, 1) := by decide +kernel
theorem dX9_know_112 : decode cX9_know 112 = .ok (.getfield 129, 3) := by decide +kernel
theorem dX9_know_115 : decode cX9_know 115 = .ok (.iload_n 3, 1) := by decide +kernel
theorem dX9_know_116 : decode cX9_know 116 = .ok (.iaload, 1) := by decide +kernel
theorem dX9_know_117 : decode cX9_know 117 = .ok (.iconst 1, 1) := by decide +kernel
theorem dX9_know_118 : decode cX9_know 118 = .ok (.bastore, 1) := by decide +kernel
theorem dX9_know_119 : decode cX9_know 119 = .ok (.aload_n 0, 1) := by decide +kernel
theorem dX9_know_120 : decode cX9_know 120 = .ok (.iload_n 3, 1) := by decide +kernel
theorem dX9_know_121 : decode cX9_know 121 = .ok (.iconst 2, 1) := by decide +kernel
theorem dX9_know_122 : decode cX9_know 122 = .ok (.iload_n 1, 1) := by decide +kernel
theorem dX9_know_123 : decode cX9_know 123 = .ok (.iload_n 2, 1) := by decide +kernel
theorem dX9_know_124 : decode cX9_know 124 = .ok (.invokevirtual 362, 3) := by decide +kernel
theorem dX9_know_127 : decode cX9_know 127 = .ok (.ifCond .ne 6, 3) := by decide +kernel
theorem dX9_know_130 : decode cX9_know 130 = .ok (.goto 23, 3) := by decide +kernel
theorem dX9_know_133 : decode cX9_know 133 = .ok (.aload_n 0, 1) := by decide +kernel
theorem dX9_know_134 : decode cX9_know 134 = .ok (.getfield 156, 3) := by decide +kernel
theorem dX9_know_137 : decode cX9_know 137 = .ok (.aload_n 0, 1) := by decide +kernel
theorem dX9_know_138 : decode cX9_know 138 = .ok (.getfield 359, 3) := by decide +kernel
theorem dX9_know_141 : decode cX9_know 141 = .ok (.iload_n 3, 1) := by decide +kernel
theorem dX9_know_142 : decode cX9_know 142 = .ok (.iastore, 1) := by decide +kernel
theorem dX9_know_143 : decode cX9_know 143 = .ok (.aload_n 0, 1) := by decide +kernel
theorem dX9_know_144 : decode cX9_know 144 = .ok (.dup, 1) := by decide +kernel
theorem dX9_know_145 : decode cX9_know 145 = .ok (.getfield 359, 3) := by decide +kernel
theorem dX9_know_148 : decode cX9_know 148 = .ok (.iconst 1, 1) := by decide +kernel
theorem dX9_know_149 : decode cX9_know 149 = .ok (.iadd, 1) := by decide +kernel
theorem dX9_know_150 : decode cX9_know 150 = .ok (.putfield 359, 3) := by decide +kernel
theorem dX9_know_153 : decode cX9_know 153 = .ok (.iinc 3 1, 3) := by decide +kernel
theorem dX9_know_156 : decode cX9_know 156 = .ok (.goto (-106), 3) := by decide +kernel
theorem dX9_know_159 : decode cX9_know 159 = .ok (.iconst 0, 1) := by decide +kernel
theorem dX9_know_160 : decode cX9_know 160 = .ok (.istore_n 3, 1) := by decide +kernel
theorem dX9_know_161 : decode cX9_know 161 = .ok (.iload_n 3, 1) := by decide +kernel
theorem dX9_know_162 : decode cX9_know 162 = .ok (.bipush 104, 2) := by decide +kernel
theorem dX9_know_164 : decode cX9_know 164 = .ok (.if_icmp .ge 47, 3) := by decide +kernel
theorem dX9_know_167 : decode cX9_know 167 = .ok (.iconst 0, 1) := by decide +kernel
theorem dX9_know_168 : decode cX9_know 168 = .ok (.istore 4, 2) := by decide +kernel
theorem dX9_know_170 : decode cX9_know 170 = .ok (.iload 4, 2) := by decide +kernel
theorem dX9_know_172 : decode cX9_know 172 = .ok (.bipush 6, 2) := by decide +kernel
theorem dX9_know_174 : decode cX9_know 174 = .ok (.if_icmp .ge 31, 3) := by decide +kernel
theorem dX9_know_177 : decode cX9_know 177 = .ok (.aload_n 0, 1) := by decide +kernel
theorem dX9_know_178 : decode cX9_know 178 = .ok (.getfield 159, 3) := by decide +kernel
theorem dX9_know_181 : decode cX9_know 181 = .ok (.iload_n 3, 1) := by decide +kernel
theorem dX9_know_182 : decode cX9_know 182 = .ok (.baload, 1) := by decide +kernel
theorem dX9_know_183 : decode cX9_know 183 = .ok (.ifCond .eq 22, 3) := by decide +kernel
theorem dX9_know_186 : decode cX9_know 186 = .ok (.aload_n 0, 1) := by decide +kernel
theorem dX9_know_187 : decode cX9_know 187 = .ok (.getfield 147, 3) := by decide +kernel
theorem dX9_know_190 : decode cX9_know 190 = .ok (.bipush 6, 2) := by decide +kernel
theorem dX9_know_192 : decode cX9_know 192 = .ok (.iload_n 3, 1) := by decide +kernel
theorem dX9_know_193 : decode cX9_know 193 = .ok (.imul, 1) := by decide +kernel
theorem dX9_know_194 : decode cX9_know 194 = .ok (.iload 4, 2) := by decide +kernel
theorem dX9_know_196 : decode cX9_know 196 = .ok (.iadd, 1) := by decide +kernel
theorem dX9_know_197 : decode cX9_know 197 = .ok (.iconst 0, 1) := by decide +kernel
theorem dX9_know_198 : decode cX9_know 198 = .ok (.iastore, 1) := by decide +kernel
theorem dX9_know_199 : decode cX9_know 199 = .ok (.iinc 4 1, 3) := by decide +kernel
theorem dX9_know_202 : decode cX9_know 202 = .ok (.goto (-32), 3) := by decide +kernel
theorem dX9_know_205 : decode cX9_know 205 = .ok (.iinc 3 1, 3) := by decide +kernel
theorem dX9_know_208 : decode cX9_know 208 = .ok (.goto (-47), 3) := by decide +kernel
theorem dX9_know_211 : decode cX9_know 211 = .ok (.aload_n 0, 1) := by decide +kernel
theorem dX9_know_212 : decode cX9_know 212 = .ok (.invokevirtual 366, 3) := by decide +kernel
theorem dX9_know_215 : decode cX9_know 215 = .ok (.aload_n 0, 1) := by decide +kernel
theorem dX9_know_216 : decode cX9_know 216 = .ok (.getfield 369, 3) := by decide +kernel
theorem dX9_know_219 : decode cX9_know 219 = .ok (.ifCond .ge 14, 3) := by decide +kernel
theorem dX9_know_222 : decode cX9_know 222 = .ok (.iconst 1, 1) := by decide +kernel
theorem dX9_know_223 : decode cX9_know 223 = .ok (.aload_n 0, 1) := by decide +kernel
theorem dX9_know_224 : decode cX9_know 224 = .ok (.getfield 359, 3) := by decide +kernel
theorem dX9_know_227 : decode cX9_know 227 = .ok (.ishl, 1) := by decide +kernel
theorem dX9_know_228 : decode cX9_know 228 = .ok (.iconst 1, 1) := by decide +kernel
theorem dX9_know_229 : decode cX9_know 229 = .ok (.isub, 1) := by decide +kernel
theorem dX9_know_230 : decode cX9_know 230 = .ok (.goto 7, 3) := by decide +kernel
theorem dX9_know_233 : decode cX9_know 233 = .ok (.aload_n 0, 1) := by decide +kernel
theorem dX9_know_234 : decode cX9_know 234 = .ok (.getfield 369, 3) := by decide +kernel
theorem dX9_know_237 : decode cX9_know 237 = .ok (.istore_n 3, 1) := by decide +kernel
theorem dX9_know_238 : decode cX9_know 238 = .ok (.iconst 0, 1) := by decide +kernel
theorem dX9_know_239 : decode cX9_know 239 = .ok (.istore 4, 2) := by decide +kernel
theorem dX9_know_241 : decode cX9_know 241 = .ok (.iload 4, 2) := by decide +kernel
theorem dX9_know_243 : decode cX9_know 243 = .ok (.bipush 104, 2) := by decide +kernel
theorem dX9_know_245 : decode cX9_know 245 = .ok (.if_icmp .ge 60, 3) := by decide +kernel
theorem dX9_know_248 : decode cX9_know 248 = .ok (.aload_n 0, 1) := by decide +kernel
theorem dX9_know_249 : decode cX9_know 249 = .ok (.getfield 150, 3) := by decide +kernel
theorem dX9_know_252 : decode cX9_know 252 = .ok (.iload 4, 2) := by decide +kernel
theorem dX9_know_254 : decode cX9_know 254 = .ok (.aload_n 0, 1) := by decide +kernel
theorem dX9_know_255 : decode cX9_know 255 = .ok (.getfield 147, 3) := by decide +kernel
theorem dX9_know_258 : decode cX9_know 258 = .ok (.bipush 6, 2) := by decide +kernel
theorem dX9_know_260 : decode cX9_know 260 = .ok (.iload 4, 2) := by decide +kernel
theorem dX9_know_262 : decode cX9_know 262 = .ok (.imul, 1) := by decide +kernel
theorem dX9_know_263 : decode cX9_know 263 = .ok (.iaload, 1) := by decide +kernel
theorem dX9_know_264 : decode cX9_know 264 = .ok (.iastore, 1) := by decide +kernel
theorem dX9_know_265 : decode cX9_know 265 = .ok (.aload_n 0, 1) := by decide +kernel
theorem dX9_know_266 : decode cX9_know 266 = .ok (.getfield 153, 3) := by decide +kernel
theorem dX9_know_269 : decode cX9_know 269 = .ok (.iload 4, 2) := by decide +kernel
theorem dX9_know_271 : decode cX9_know 271 = .ok (.aload_n 0, 1) := by decide +kernel
theorem dX9_know_272 : decode cX9_know 272 = .ok (.getfield 147, 3) := by decide +kernel
theorem dX9_know_275 : decode cX9_know 275 = .ok (.bipush 6, 2) := by decide +kernel
theorem dX9_know_277 : decode cX9_know 277 = .ok (.iload 4, 2) := by decide +kernel
theorem dX9_know_279 : decode cX9_know 279 = .ok (.imul, 1) := by decide +kernel
theorem dX9_know_280 : decode cX9_know 280 = .ok (.iaload, 1) := by decide +kernel
theorem dX9_know_281 : decode cX9_know 281 = .ok (.iastore, 1) := by decide +kernel
theorem dX9_know_282 : decode cX9_know 282 = .ok (.aload_n 0, 1) := by decide +kernel
theorem dX9_know_283 : decode cX9_know 283 = .ok (.getfield 159, 3) := by decide +kernel
theorem dX9_know_286 : decode cX9_know 286 = .ok (.iload 4, 2) := by decide +kernel
theorem dX9_know_288 : decode cX9_know 288 = .ok (.baload, 1) := by decide +kernel
theorem dX9_know_289 : decode cX9_know 289 = .ok (.ifCond .eq 10, 3) := by decide +kernel
theorem dX9_know_292 : decode cX9_know 292 = .ok (.aload_n 0, 1) := by decide +kernel
theorem dX9_know_293 : decode cX9_know 293 = .ok (.iload 4, 2) := by decide +kernel
theorem dX9_know_295 : decode cX9_know 295 = .ok (.iload_n 3, 1) := by decide +kernel
theorem dX9_know_296 : decode cX9_know 296 = .ok (.invokevirtual 372, 3) := by decide +kernel
theorem dX9_know_299 : decode cX9_know 299 = .ok (.iinc 4 1, 3) := by decide +kernel
theorem dX9_know_302 : decode cX9_know 302 = .ok (.goto (-61), 3) := by decide +kernel
theorem dX9_know_305 : decode cX9_know 305 = .ok (.return_, 1) := by decide +kernel
theorem dX9_habit_0 : decode cX9_habit 0 = .ok (.iconst 0, 1) := by decide +kernel
theorem dX9_habit_1 : decode cX9_habit 1 = .ok (.istore_n 3, 1) := by decide +kernel
theorem dX9_habit_2 : decode cX9_habit 2 = .ok (.iload_n 1, 1) := by decide +kernel
theorem dX9_habit_3 : decode cX9_habit 3 = .ok (.bipush 12, 2) := by decide +kernel
theorem dX9_habit_5 : decode cX9_habit 5 = .ok (.if_icmp .ge 7, 3) := by decide +kernel
theorem dX9_habit_8 : decode cX9_habit 8 = .ok (.iconst 0, 1) := by decide +kernel
theorem dX9_habit_9 : decode cX9_habit 9 = .ok (.goto 7, 3) := by decide +kernel
theorem dX9_habit_12 : decode cX9_habit 12 = .ok (.iload_n 1, 1) := by decide +kernel
theorem dX9_habit_13 : decode cX9_habit 13 = .ok (.bipush 12, 2) := by decide +kernel
theorem dX9_habit_15 : decode cX9_habit 15 = .ok (.isub, 1) := by decide +kernel
theorem dX9_habit_16 : decode cX9_habit 16 = .ok (.istore 4, 2) := by decide +kernel
theorem dX9_habit_18 : decode cX9_habit 18 = .ok (.iload 4, 2) := by decide +kernel
theorem dX9_habit_20 : decode cX9_habit 20 = .ok (.iload_n 1, 1) := by decide +kernel
theorem dX9_habit_21 : decode cX9_habit 21 = .ok (.if_icmp .ge 32, 3) := by decide +kernel
theorem dX9_habit_24 : decode cX9_habit 24 = .ok (.iload_n 3, 1) := by decide +kernel
theorem dX9_habit_25 : decode cX9_habit 25 = .ok (.aload_n 0, 1) := by decide +kernel
theorem dX9_habit_26 : decode cX9_habit 26 = .ok (.getfield 147, 3) := by decide +kernel
theorem dX9_habit_29 : decode cX9_habit 29 = .ok (.bipush 6, 2) := by decide +kernel
theorem dX9_habit_31 : decode cX9_habit 31 = .ok (.iload 4, 2) := by decide +kernel
theorem dX9_habit_33 : decode cX9_habit 33 = .ok (.imul, 1) := by decide +kernel
theorem dX9_habit_34 : decode cX9_habit 34 = .ok (.iload_n 2, 1) := by decide +kernel
theorem dX9_habit_35 : decode cX9_habit 35 = .ok (.iadd, 1) := by decide +kernel
theorem dX9_habit_36 : decode cX9_habit 36 = .ok (.iaload, 1) := by decide +kernel
theorem dX9_habit_37 : decode cX9_habit 37 = .ok (.ifCond .le 7, 3) := by decide +kernel
theorem dX9_habit_40 : decode cX9_habit 40 = .ok (.iconst 1, 1) := by decide +kernel
theorem dX9_habit_41 : decode cX9_habit 41 = .ok (.goto 4, 3) := by decide +kernel
theorem dX9_habit_44 : decode cX9_habit 44 = .ok (.iconst 0, 1) := by decide +kernel
theorem dX9_habit_45 : decode cX9_habit 45 = .ok (.iadd, 1) := by decide +kernel
theorem dX9_habit_46 : decode cX9_habit 46 = .ok (.istore_n 3, 1) := by decide +kernel
theorem dX9_habit_47 : decode cX9_habit 47 = .ok (.iinc 4 1, 3) := by decide +kernel
theorem dX9_habit_50 : decode cX9_habit 50 = .ok (.goto (-32), 3) := by decide +kernel
theorem dX9_habit_53 : decode cX9_habit 53 = .ok (.iload_n 3, 1) := by decide +kernel
theorem dX9_habit_54 : decode cX9_habit 54 = .ok (.ireturn, 1) := by decide +kernel
theorem dX9_term_0 : decode cX9_term 0 = .ok (.iload_n 1, 1) := by decide +kernel
theorem dX9_term_1 : decode cX9_term 1 = .ok (.tableswitch 141 104 119 #[93, 141, 141, 81, 141, 141, 79, 141, 113, 141, 123, 141, 105, 141, 141, 111], 79) := by decide +kernel
theorem dX9_term_80 : decode cX9_term 80 = .ok (.iload_n 2, 1) := by decide +kernel
theorem dX9_term_81 : decode cX9_term 81 = .ok (.ireturn, 1) := by decide +kernel
theorem dX9_term_82 : decode cX9_term 82 = .ok (.aload_n 0, 1) := by decide +kernel
theorem dX9_term_83 : decode cX9_term 83 = .ok (.getfield 147, 3) := by decide +kernel
theorem dX9_term_86 : decode cX9_term 86 = .ok (.bipush 6, 2) := by decide +kernel
theorem dX9_term_88 : decode cX9_term 88 = .ok (.iload_n 3, 1) := by decide +kernel
theorem dX9_term_89 : decode cX9_term 89 = .ok (.imul, 1) := by decide +kernel
theorem dX9_term_90 : decode cX9_term 90 = .ok (.iload_n 2, 1) := by decide +kernel
theorem dX9_term_91 : decode cX9_term 91 = .ok (.iadd, 1) := by decide +kernel
theorem dX9_term_92 : decode cX9_term 92 = .ok (.iaload, 1) := by decide +kernel
theorem dX9_term_93 : decode cX9_term 93 = .ok (.ireturn, 1) := by decide +kernel
theorem dX9_term_94 : decode cX9_term 94 = .ok (.aload_n 0, 1) := by decide +kernel
theorem dX9_term_95 : decode cX9_term 95 = .ok (.getfield 147, 3) := by decide +kernel
theorem dX9_term_98 : decode cX9_term 98 = .ok (.bipush 6, 2) := by decide +kernel
theorem dX9_term_100 : decode cX9_term 100 = .ok (.iload_n 3, 1) := by decide +kernel
theorem dX9_term_101 : decode cX9_term 101 = .ok (.imul, 1) := by decide +kernel
theorem dX9_term_102 : decode cX9_term 102 = .ok (.iconst 5, 1) := by decide +kernel
theorem dX9_term_103 : decode cX9_term 103 = .ok (.iadd, 1) := by decide +kernel
theorem dX9_term_104 : decode cX9_term 104 = .ok (.iaload, 1) := by decide +kernel
theorem dX9_term_105 : decode cX9_term 105 = .ok (.ireturn, 1) := by decide +kernel
theorem dX9_term_106 : decode cX9_term 106 = .ok (.aload_n 0, 1) := by decide +kernel
theorem dX9_term_107 : decode cX9_term 107 = .ok (.iload_n 3, 1) := by decide +kernel
theorem dX9_term_108 : decode cX9_term 108 = .ok (.invokevirtual 381, 3) := by decide +kernel
theorem dX9_term_111 : decode cX9_term 111 = .ok (.ireturn, 1) := by decide +kernel
theorem dX9_term_112 : decode cX9_term 112 = .ok (.iload_n 3, 1) := by decide +kernel
theorem dX9_term_113 : decode cX9_term 113 = .ok (.ireturn, 1) := by decide +kernel
theorem dX9_term_114 : decode cX9_term 114 = .ok (.aload_n 0, 1) := by decide +kernel
theorem dX9_term_115 : decode cX9_term 115 = .ok (.getfield 117, 3) := by decide +kernel
theorem dX9_term_118 : decode cX9_term 118 = .ok (.aload_n 0, 1) := by decide +kernel
theorem dX9_term_119 : decode cX9_term 119 = .ok (.getfield 406, 3) := by decide +kernel
theorem dX9_term_122 : decode cX9_term 122 = .ok (.iaload, 1) := by decide +kernel
theorem dX9_term_123 : decode cX9_term 123 = .ok (.ireturn, 1) := by decide +kernel
theorem dX9_term_124 : decode cX9_term 124 = .ok (.aload_n 0, 1) := by decide +kernel
theorem dX9_term_125 : decode cX9_term 125 = .ok (.getfield 144, 3) := by decide +kernel
theorem dX9_term_128 : decode cX9_term 128 = .ok (.aload_n 0, 1) := by decide +kernel
theorem dX9_term_129 : decode cX9_term 129 = .ok (.getfield 406, 3) := by decide +kernel
theorem dX9_term_132 : decode cX9_term 132 = .ok (.baload, 1) := by decide +kernel
theorem dX9_term_133 : decode cX9_term 133 = .ok (.ifCond .eq 7, 3) := by decide +kernel
theorem dX9_term_136 : decode cX9_term 136 = .ok (.iconst 1, 1) := by decide +kernel
theorem dX9_term_137 : decode cX9_term 137 = .ok (.goto 4, 3) := by decide +kernel
theorem dX9_term_140 : decode cX9_term 140 = .ok (.iconst 0, 1) := by decide +kernel
theorem dX9_term_141 : decode cX9_term 141 = .ok (.ireturn, 1) := by decide +kernel
theorem dX9_term_142 : decode cX9_term 142 = .ok (.aload_n 0, 1) := by decide +kernel
theorem dX9_term_143 : decode cX9_term 143 = .ok (.iload_n 3, 1) := by decide +kernel
theorem dX9_term_144 : decode cX9_term 144 = .ok (.iload_n 2, 1) := by decide +kernel
theorem dX9_term_145 : decode cX9_term 145 = .ok (.invokevirtual 409, 3) := by decide +kernel
theorem dX9_term_148 : decode cX9_term 148 = .ok (.ireturn, 1) := by decide +kernel
theorem dX9_two_0 : decode cX9_two 0 = .ok (.iload_n 0, 1) := by decide +kernel
theorem dX9_two_1 : decode cX9_two 1 = .ok (.tableswitch 186 38 62 #[172, 186, 186, 186, 123, 115, 186, 119, 186, 127, 186, 186, 186, 186, 186, 186, 186, 186, 186, 186, 186, 186, 139, 161, 150], 115) := by decide +kernel
theorem dX9_two_116 : decode cX9_two 116 = .ok (.iload_n 1, 1) := by decide +kernel
theorem dX9_two_117 : decode cX9_two 117 = .ok (.iload_n 2, 1) := by decide +kernel
theorem dX9_two_118 : decode cX9_two 118 = .ok (.iadd, 1) := by decide +kernel
theorem dX9_two_119 : decode cX9_two 119 = .ok (.ireturn, 1) := by decide +kernel
theorem dX9_two_120 : decode cX9_two 120 = .ok (.iload_n 1, 1) := by decide +kernel
theorem dX9_two_121 : decode cX9_two 121 = .ok (.iload_n 2, 1) := by decide +kernel
theorem dX9_two_122 : decode cX9_two 122 = .ok (.isub, 1) := by decide +kernel
theorem dX9_two_123 : decode cX9_two 123 = .ok (.ireturn, 1) := by decide +kernel
theorem dX9_two_124 : decode cX9_two 124 = .ok (.iload_n 1, 1) := by decide +kernel
theorem dX9_two_125 : decode cX9_two 125 = .ok (.iload_n 2, 1) := by decide +kernel
theorem dX9_two_126 : decode cX9_two 126 = .ok (.imul, 1) := by decide +kernel
theorem dX9_two_127 : decode cX9_two 127 = .ok (.ireturn, 1) := by decide +kernel
theorem dX9_two_128 : decode cX9_two 128 = .ok (.iload_n 2, 1) := by decide +kernel
theorem dX9_two_129 : decode cX9_two 129 = .ok (.ifCond .ne 7, 3) := by decide +kernel
theorem dX9_two_132 : decode cX9_two 132 = .ok (.iconst 0, 1) := by decide +kernel
theorem dX9_two_133 : decode cX9_two 133 = .ok (.goto 6, 3) := by decide +kernel
theorem dX9_two_136 : decode cX9_two 136 = .ok (.iload_n 1, 1) := by decide +kernel
theorem dX9_two_137 : decode cX9_two 137 = .ok (.iload_n 2, 1) := by decide +kernel
theorem dX9_two_138 : decode cX9_two 138 = .ok (.idiv, 1) := by decide +kernel
theorem dX9_two_139 : decode cX9_two 139 = .ok (.ireturn, 1) := by decide +kernel
theorem dX9_two_140 : decode cX9_two 140 = .ok (.iload_n 1, 1) := by decide +kernel
theorem dX9_two_141 : decode cX9_two 141 = .ok (.iload_n 2, 1) := by decide +kernel
theorem dX9_two_142 : decode cX9_two 142 = .ok (.if_icmp .ge 7, 3) := by decide +kernel
theorem dX9_two_145 : decode cX9_two 145 = .ok (.iconst 1, 1) := by decide +kernel
theorem dX9_two_146 : decode cX9_two 146 = .ok (.goto 4, 3) := by decide +kernel
theorem dX9_two_149 : decode cX9_two 149 = .ok (.iconst 0, 1) := by decide +kernel
theorem dX9_two_150 : decode cX9_two 150 = .ok (.ireturn, 1) := by decide +kernel
theorem dX9_two_151 : decode cX9_two 151 = .ok (.iload_n 1, 1) := by decide +kernel
theorem dX9_two_152 : decode cX9_two 152 = .ok (.iload_n 2, 1) := by decide +kernel
theorem dX9_two_153 : decode cX9_two 153 = .ok (.if_icmp .le 7, 3) := by decide +kernel
theorem dX9_two_156 : decode cX9_two 156 = .ok (.iconst 1, 1) := by decide +kernel
theorem dX9_two_157 : decode cX9_two 157 = .ok (.goto 4, 3) := by decide +kernel
theorem dX9_two_160 : decode cX9_two 160 = .ok (.iconst 0, 1) := by decide +kernel
theorem dX9_two_161 : decode cX9_two 161 = .ok (.ireturn, 1) := by decide +kernel
theorem dX9_two_162 : decode cX9_two 162 = .ok (.iload_n 1, 1) := by decide +kernel
theorem dX9_two_163 : decode cX9_two 163 = .ok (.iload_n 2, 1) := by decide +kernel
theorem dX9_two_164 : decode cX9_two 164 = .ok (.if_icmp .ne 7, 3) := by decide +kernel
theorem dX9_two_167 : decode cX9_two 167 = .ok (.iconst 1, 1) := by decide +kernel
theorem dX9_two_168 : decode cX9_two 168 = .ok (.goto 4, 3) := by decide +kernel
theorem dX9_two_171 : decode cX9_two 171 = .ok (.iconst 0, 1) := by decide +kernel
theorem dX9_two_172 : decode cX9_two 172 = .ok (.ireturn, 1) := by decide +kernel
theorem dX9_two_173 : decode cX9_two 173 = .ok (.iload_n 1, 1) := by decide +kernel
theorem dX9_two_174 : decode cX9_two 174 = .ok (.ifCond .eq 11, 3) := by decide +kernel
theorem dX9_two_177 : decode cX9_two 177 = .ok (.iload_n 2, 1) := by decide +kernel
theorem dX9_two_178 : decode cX9_two 178 = .ok (.ifCond .eq 7, 3) := by decide +kernel
theorem dX9_two_181 : decode cX9_two 181 = .ok (.iconst 1, 1) := by decide +kernel
theorem dX9_two_182 : decode cX9_two 182 = .ok (.goto 4, 3) := by decide +kernel
theorem dX9_two_185 : decode cX9_two 185 = .ok (.iconst 0, 1) := by decide +kernel
theorem dX9_two_186 : decode cX9_two 186 = .ok (.ireturn, 1) := by decide +kernel
theorem dX9_two_187 : decode cX9_two 187 = .ok (.iload_n 1, 1) := by decide +kernel
theorem dX9_two_188 : decode cX9_two 188 = .ok (.ifCond .ne 7, 3) := by decide +kernel
theorem dX9_two_191 : decode cX9_two 191 = .ok (.iload_n 2, 1) := by decide +kernel
theorem dX9_two_192 : decode cX9_two 192 = .ok (.ifCond .eq 7, 3) := by decide +kernel
theorem dX9_two_195 : decode cX9_two 195 = .ok (.iconst 1, 1) := by decide +kernel
theorem dX9_two_196 : decode cX9_two 196 = .ok (.goto 4, 3) := by decide +kernel
theorem dX9_two_199 : decode cX9_two 199 = .ok (.iconst 0, 1) := by decide +kernel
theorem dX9_two_200 : decode cX9_two 200 = .ok (.ireturn, 1) := by decide +kernel
theorem dX9_holds_0 : decode cX9_holds 0 = .ok (.iconst 0, 1) := by decide +kernel
theorem dX9_holds_1 : decode cX9_holds 1 = .ok (.istore 4, 2) := by decide +kernel
theorem dX9_holds_3 : decode cX9_holds 3 = .ok (.sipush 900, 3) := by decide +kernel
theorem dX9_holds_6 : decode cX9_holds 6 = .ok (.iload_n 1, 1) := by decide +kernel
theorem dX9_holds_7 : decode cX9_holds 7 = .ok (.imul, 1) := by decide +kernel
theorem dX9_holds_8 : decode cX9_holds 8 = .ok (.aload_n 0, 1) := by decide +kernel
theorem dX9_holds_9 : decode cX9_holds 9 = .ok (.getfield 96, 3) := by decide +kernel
theorem dX9_holds_12 : decode cX9_holds 12 = .ok (.bipush 11, 2) := by decide +kernel
theorem dX9_holds_14 : decode cX9_holds 14 = .ok (.iload_n 1, 1) := by decide +kernel
theorem dX9_holds_15 : decode cX9_holds 15 = .ok (.imul, 1) := by decide +kernel
theorem dX9_holds_16 : decode cX9_holds 16 = .ok (.iload_n 2, 1) := by decide +kernel
theorem dX9_holds_17 : decode cX9_holds 17 = .ok (.iadd, 1) := by decide +kernel
theorem dX9_holds_18 : decode cX9_holds 18 = .ok (.iaload, 1) := by decide +kernel
theorem dX9_holds_19 : decode cX9_holds 19 = .ok (.iadd, 1) := by decide +kernel
theorem dX9_holds_20 : decode cX9_holds 20 = .ok (.istore 5, 2) := by decide +kernel
theorem dX9_holds_22 : decode cX9_holds 22 = .ok (.iload 5, 2) := by decide +kernel
theorem dX9_holds_24 : decode cX9_holds 24 = .ok (.sipush 900, 3) := by decide +kernel
theorem dX9_holds_27 : decode cX9_holds 27 = .ok (.iload_n 1, 1) := by decide +kernel
theorem dX9_holds_28 : decode cX9_holds 28 = .ok (.imul, 1) := by decide +kernel
theorem dX9_holds_29 : decode cX9_holds 29 = .ok (.aload_n 0, 1) := by decide +kernel
theorem dX9_holds_30 : decode cX9_holds 30 = .ok (.getfield 99, 3) := by decide +kernel
theorem dX9_holds_33 : decode cX9_holds 33 = .ok (.bipush 11, 2) := by decide +kernel
theorem dX9_holds_35 : decode cX9_holds 35 = .ok (.iload_n 1, 1) := by decide +kernel
theorem dX9_holds_36 : decode cX9_holds 36 = .ok (.imul, 1) := by decide +kernel
theorem dX9_holds_37 : decode cX9_holds 37 = .ok (.iload_n 2, 1) := by decide +kernel
theorem dX9_holds_38 : decode cX9_holds 38 = .ok (.iadd, 1) := by decide +kernel
theorem dX9_holds_39 : decode cX9_holds 39 = .ok (.iaload, 1) := by decide +kernel
theorem dX9_holds_40 : decode cX9_holds 40 = .ok (.iadd, 1) := by decide +kernel
theorem dX9_holds_41 : decode cX9_holds 41 = .ok (.if_icmp .ge 122, 3) := by decide +kernel
theorem dX9_holds_44 : decode cX9_holds 44 = .ok (.aload_n 0, 1) := by decide +kernel
theorem dX9_holds_45 : decode cX9_holds 45 = .ok (.getfield 102, 3) := by decide +kernel
theorem dX9_holds_48 : decode cX9_holds 48 = .ok (.iload 5, 2) := by decide +kernel
theorem dX9_holds_50 : decode cX9_holds 50 = .ok (.iaload, 1) := by decide +kernel
theorem dX9_holds_51 : decode cX9_holds 51 = .ok (.istore 6, 2) := by decide +kernel
theorem dX9_holds_53 : decode cX9_holds 53 = .ok (.iload 6, 2) := by decide +kernel
theorem dX9_holds_55 : decode cX9_holds 55 = .ok (.bipush 126, 2) := by decide +kernel
theorem dX9_holds_57 : decode cX9_holds 57 = .ok (.if_icmp .ne 32, 3) := by decide +kernel
theorem dX9_holds_60 : decode cX9_holds 60 = .ok (.aload_n 0, 1) := by decide +kernel
theorem dX9_holds_61 : decode cX9_holds 61 = .ok (.getfield 114, 3) := by decide +kernel
theorem dX9_holds_64 : decode cX9_holds 64 = .ok (.iload 4, 2) := by decide +kernel
theorem dX9_holds_66 : decode cX9_holds 66 = .ok (.iconst 1, 1) := by decide +kernel
theorem dX9_holds_67 : decode cX9_holds 67 = .ok (.isub, 1) := by decide +kernel
theorem dX9_holds_68 : decode cX9_holds 68 = .ok (.aload_n 0, 1) := by decide +kernel
theorem dX9_holds_69 : decode cX9_holds 69 = .ok (.getfield 114, 3) := by decide +kernel
theorem dX9_holds_72 : decode cX9_holds 72 = .ok (.iload 4, 2) := by decide +kernel
theorem dX9_holds_74 : decode cX9_holds 74 = .ok (.iconst 1, 1) := by decide +kernel
theorem dX9_holds_75 : decode cX9_holds 75 = .ok (.isub, 1) := by decide +kernel
theorem dX9_holds_76 : decode cX9_holds 76 = .ok (.iaload, 1) := by decide +kernel
theorem dX9_holds_77 : decode cX9_holds 77 = .ok (.ifCond .ne 7, 3) := by decide +kernel
theorem dX9_holds_80 : decode cX9_holds 80 = .ok (.iconst 1, 1) := by decide +kernel
theorem dX9_holds_81 : decode cX9_holds 81 = .ok (.goto 4, 3) := by decide +kernel
theorem dX9_holds_84 : decode cX9_holds 84 = .ok (.iconst 0, 1) := by decide +kernel
theorem dX9_holds_85 : decode cX9_holds 85 = .ok (.iastore, 1) := by decide +kernel
theorem dX9_holds_86 : decode cX9_holds 86 = .ok (.goto 71, 3) := by decide +kernel
theorem dX9_holds_89 : decode cX9_holds 89 = .ok (.iload 6, 2) := by decide +kernel
theorem dX9_holds_91 : decode cX9_holds 91 = .ok (.invokestatic 30, 3) := by decide +kernel
theorem dX9_holds_94 : decode cX9_holds 94 = .ok (.ifCond .eq 30, 3) := by decide +kernel
theorem dX9_holds_97 : decode cX9_holds 97 = .ok (.aload_n 0, 1) := by decide +kernel
theorem dX9_holds_98 : decode cX9_holds 98 = .ok (.getfield 114, 3) := by decide +kernel
theorem dX9_holds_101 : decode cX9_holds 101 = .ok (.iload 4, 2) := by decide +kernel
theorem dX9_holds_103 : decode cX9_holds 103 = .ok (.aload_n 0, 1) := by decide +kernel
theorem dX9_holds_104 : decode cX9_holds 104 = .ok (.iload 6, 2) := by decide +kernel
theorem dX9_holds_106 : decode cX9_holds 106 = .ok (.aload_n 0, 1) := by decide +kernel
theorem dX9_holds_107 : decode cX9_holds 107 = .ok (.getfield 105, 3) := by decide +kernel
theorem dX9_holds_110 : decode cX9_holds 110 = .ok (.iload 5, 2) := by decide +kernel
theorem dX9_holds_112 : decode cX9_holds 112 = .ok (.iaload, 1) := by decide +kernel
theorem dX9_holds_113 : decode cX9_holds 113 = .ok (.iload_n 3, 1) := by decide +kernel
theorem dX9_holds_114 : decode cX9_holds 114 = .ok (.invokevirtual 412, 3) := by decide +kernel
theorem dX9_holds_117 : decode cX9_holds 117 = .ok (.iastore, 1) := by decide +kernel
theorem dX9_holds_118 : decode cX9_holds 118 = .ok (.iinc 4 1, 3) := by decide +kernel
theorem dX9_holds_121 : decode cX9_holds 121 = .ok (.goto 36, 3) := by decide +kernel
theorem dX9_holds_124 : decode cX9_holds 124 = .ok (.iinc 4 (-1), 3) := by decide +kernel
theorem dX9_holds_127 : decode cX9_holds 127 = .ok (.aload_n 0, 1) := by decide +kernel
theorem dX9_holds_128 : decode cX9_holds 128 = .ok (.getfield 114, 3) := by decide +kernel
theorem dX9_holds_131 : decode cX9_holds 131 = .ok (.iload 4, 2) := by decide +kernel
theorem dX9_holds_133 : decode cX9_holds 133 = .ok (.iconst 1, 1) := by decide +kernel
theorem dX9_holds_134 : decode cX9_holds 134 = .ok (.isub, 1) := by decide +kernel
theorem dX9_holds_135 : decode cX9_holds 135 = .ok (.iload 6, 2) := by decide +kernel
theorem dX9_holds_137 : decode cX9_holds 137 = .ok (.aload_n 0, 1) := by decide +kernel
theorem dX9_holds_138 : decode cX9_holds 138 = .ok (.getfield 114, 3) := by decide +kernel
theorem dX9_holds_141 : decode cX9_holds 141 = .ok (.iload 4, 2) := by decide +kernel
theorem dX9_holds_143 : decode cX9_holds 143 = .ok (.iconst 1, 1) := by decide +kernel
theorem dX9_holds_144 : decode cX9_holds 144 = .ok (.isub, 1) := by decide +kernel
theorem dX9_holds_145 : decode cX9_holds 145 = .ok (.iaload, 1) := by decide +kernel
theorem dX9_holds_146 : decode cX9_holds 146 = .ok (.aload_n 0, 1) := by decide +kernel
theorem dX9_holds_147 : decode cX9_holds 147 = .ok (.getfield 114, 3) := by decide +kernel
theorem dX9_holds_150 : decode cX9_holds 150 = .ok (.iload 4, 2) := by decide +kernel
theorem dX9_holds_152 : decode cX9_holds 152 = .ok (.iaload, 1) := by decide +kernel
theorem dX9_holds_153 : decode cX9_holds 153 = .ok (.invokestatic 416, 3) := by decide +kernel
theorem dX9_holds_156 : decode cX9_holds 156 = .ok (.iastore, 1) := by decide +kernel
theorem dX9_holds_157 : decode cX9_holds 157 = .ok (.iinc 5 1, 3) := by decide +kernel
theorem dX9_holds_160 : decode cX9_holds 160 = .ok (.goto (-138), 3) := by decide +kernel
theorem dX9_holds_163 : decode cX9_holds 163 = .ok (.aload_n 0, 1) := by decide +kernel
theorem dX9_holds_164 : decode cX9_holds 164 = .ok (.getfield 114, 3) := by decide +kernel
theorem dX9_holds_167 : decode cX9_holds 167 = .ok (.iconst 0, 1) := by decide +kernel
theorem dX9_holds_168 : decode cX9_holds 168 = .ok (.iaload, 1) := by decide +kernel
theorem dX9_holds_169 : decode cX9_holds 169 = .ok (.ifCond .eq 7, 3) := by decide +kernel
theorem dX9_holds_172 : decode cX9_holds 172 = .ok (.iconst 1, 1) := by decide +kernel
theorem dX9_holds_173 : decode cX9_holds 173 = .ok (.goto 4, 3) := by decide +kernel
theorem dX9_holds_176 : decode cX9_holds 176 = .ok (.iconst 0, 1) := by decide +kernel
theorem dX9_holds_177 : decode cX9_holds 177 = .ok (.ireturn, 1) := by decide +kernel
theorem dX9_partOf_0 : decode cX9_partOf 0 = .ok (.iconst 0, 1) := by decide +kernel
theorem dX9_partOf_1 : decode cX9_partOf 1 = .ok (.istore 4, 2) := by decide +kernel
theorem dX9_partOf_3 : decode cX9_partOf 3 = .ok (.iload 4, 2) := by decide +kernel
theorem dX9_partOf_5 : decode cX9_partOf 5 = .ok (.aload_n 0, 1) := by decide +kernel
theorem dX9_partOf_6 : decode cX9_partOf 6 = .ok (.getfield 76, 3) := by decide +kernel
theorem dX9_partOf_9 : decode cX9_partOf 9 = .ok (.iload_n 1, 1) := by decide +kernel
theorem dX9_partOf_10 : decode cX9_partOf 10 = .ok (.iaload, 1) := by decide +kernel
theorem dX9_partOf_11 : decode cX9_partOf 11 = .ok (.if_icmp .ge 49, 3) := by decide +kernel
theorem dX9_partOf_14 : decode cX9_partOf 14 = .ok (.aload_n 0, 1) := by decide +kernel
theorem dX9_partOf_15 : decode cX9_partOf 15 = .ok (.getfield 90, 3) := by decide +kernel
theorem dX9_partOf_18 : decode cX9_partOf 18 = .ok (.bipush 11, 2) := by decide +kernel
theorem dX9_partOf_20 : decode cX9_partOf 20 = .ok (.iload_n 1, 1) := by decide +kernel
theorem dX9_partOf_21 : decode cX9_partOf 21 = .ok (.imul, 1) := by decide +kernel
theorem dX9_partOf_22 : decode cX9_partOf 22 = .ok (.iload 4, 2) := by decide +kernel
theorem dX9_partOf_24 : decode cX9_partOf 24 = .ok (.iadd, 1) := by decide +kernel
theorem dX9_partOf_25 : decode cX9_partOf 25 = .ok (.iaload, 1) := by decide +kernel
theorem dX9_partOf_26 : decode cX9_partOf 26 = .ok (.iload_n 2, 1) := by decide +kernel
theorem dX9_partOf_27 : decode cX9_partOf 27 = .ok (.if_icmp .ne 27, 3) := by decide +kernel
theorem dX9_partOf_30 : decode cX9_partOf 30 = .ok (.aload_n 0, 1) := by decide +kernel
theorem dX9_partOf_31 : decode cX9_partOf 31 = .ok (.iload_n 1, 1) := by decide +kernel
theorem dX9_partOf_32 : decode cX9_partOf 32 = .ok (.iload 4, 2) := by decide +kernel
theorem dX9_partOf_34 : decode cX9_partOf 34 = .ok (.iload_n 3, 1) := by decide +kernel
theorem dX9_partOf_35 : decode cX9_partOf 35 = .ok (.invokevirtual 419, 3) := by decide +kernel
theorem dX9_partOf_38 : decode cX9_partOf 38 = .ok (.ifCond .eq 16, 3) := by decide +kernel
theorem dX9_partOf_41 : decode cX9_partOf 41 = .ok (.aload_n 0, 1) := by decide +kernel
theorem dX9_partOf_42 : decode cX9_partOf 42 = .ok (.getfield 93, 3) := by decide +kernel
theorem dX9_partOf_45 : decode cX9_partOf 45 = .ok (.bipush 11, 2) := by decide +kernel
theorem dX9_partOf_47 : decode cX9_partOf 47 = .ok (.iload_n 1, 1) := by decide +kernel
theorem dX9_partOf_48 : decode cX9_partOf 48 = .ok (.imul, 1) := by decide +kernel
theorem dX9_partOf_49 : decode cX9_partOf 49 = .ok (.iload 4, 2) := by decide +kernel
theorem dX9_partOf_51 : decode cX9_partOf 51 = .ok (.iadd, 1) := by decide +kernel
theorem dX9_partOf_52 : decode cX9_partOf 52 = .ok (.iaload, 1) := by decide +kernel
theorem dX9_partOf_53 : decode cX9_partOf 53 = .ok (.ireturn, 1) := by decide +kernel
theorem dX9_partOf_54 : decode cX9_partOf 54 = .ok (.iinc 4 1, 3) := by decide +kernel
theorem dX9_partOf_57 : decode cX9_partOf 57 = .ok (.goto (-54), 3) := by decide +kernel
theorem dX9_partOf_60 : decode cX9_partOf 60 = .ok (.iconst 0, 1) := by decide +kernel
theorem dX9_partOf_61 : decode cX9_partOf 61 = .ok (.ireturn, 1) := by decide +kernel
theorem dX9_reckon_0 : decode cX9_reckon 0 = .ok (.aload_n 0, 1) := by decide +kernel
theorem dX9_reckon_1 : decode cX9_reckon 1 = .ok (.iload_n 2, 1) := by decide +kernel
theorem dX9_reckon_2 : decode cX9_reckon 2 = .ok (.iload 4, 2) := by decide +kernel
theorem dX9_reckon_4 : decode cX9_reckon 4 = .ok (.invokevirtual 403, 3) := by decide +kernel
theorem dX9_reckon_7 : decode cX9_reckon 7 = .ok (.aload_n 0, 1) := by decide +kernel
theorem dX9_reckon_8 : decode cX9_reckon 8 = .ok (.iload_n 2, 1) := by decide +kernel
theorem dX9_reckon_9 : decode cX9_reckon 9 = .ok (.putfield 406, 3) := by decide +kernel
theorem dX9_reckon_12 : decode cX9_reckon 12 = .ok (.iconst 0, 1) := by decide +kernel
theorem dX9_reckon_13 : decode cX9_reckon 13 = .ok (.istore 5, 2) := by decide +kernel
theorem dX9_reckon_15 : decode cX9_reckon 15 = .ok (.iload 5, 2) := by decide +kernel
theorem dX9_reckon_17 : decode cX9_reckon 17 = .ok (.bipush 104, 2) := by decide +kernel
theorem dX9_reckon_19 : decode cX9_reckon 19 = .ok (.if_icmp .ge 50, 3) := by decide +kernel
theorem dX9_reckon_22 : decode cX9_reckon 22 = .ok (.aload_n 0, 1) := by decide +kernel
theorem dX9_reckon_23 : decode cX9_reckon 23 = .ok (.getfield 159, 3) := by decide +kernel
theorem dX9_reckon_26 : decode cX9_reckon 26 = .ok (.iload 5, 2) := by decide +kernel
theorem dX9_reckon_28 : decode cX9_reckon 28 = .ok (.baload, 1) := by decide +kernel
theorem dX9_reckon_29 : decode cX9_reckon 29 = .ok (.ifCond .eq 34, 3) := by decide +kernel
theorem dX9_reckon_32 : decode cX9_reckon 32 = .ok (.aload_n 0, 1) := by decide +kernel
theorem dX9_reckon_33 : decode cX9_reckon 33 = .ok (.getfield 147, 3) := by decide +kernel
theorem dX9_reckon_36 : decode cX9_reckon 36 = .ok (.bipush 6, 2) := by decide +kernel
theorem dX9_reckon_38 : decode cX9_reckon 38 = .ok (.iload 5, 2) := by decide +kernel
theorem dX9_reckon_40 : decode cX9_reckon 40 = .ok (.imul, 1) := by decide +kernel
theorem dX9_reckon_41 : decode cX9_reckon 41 = .ok (.iload_n 3, 1) := by decide +kernel
theorem dX9_reckon_42 : decode cX9_reckon 42 = .ok (.ifCond .eq 13, 3) := by decide +kernel
theorem dX9_reckon_45 : decode cX9_reckon 45 = .ok (.aload_n 0, 1) := by decide +kernel
theorem dX9_reckon_46 : decode cX9_reckon 46 = .ok (.getfield 153, 3) := by decide +kernel
theorem dX9_reckon_49 : decode cX9_reckon 49 = .ok (.iload 5, 2) := by decide +kernel
theorem dX9_reckon_51 : decode cX9_reckon 51 = .ok (.iaload, 1) := by decide +kernel
theorem dX9_reckon_52 : decode cX9_reckon 52 = .ok (.goto 10, 3) := by decide +kernel
theorem dX9_reckon_55 : decode cX9_reckon 55 = .ok (.aload_n 0, 1) := by decide +kernel
theorem dX9_reckon_56 : decode cX9_reckon 56 = .ok (.getfield 150, 3) := by decide +kernel
theorem dX9_reckon_59 : decode cX9_reckon 59 = .ok (.iload 5, 2) := by decide +kernel
theorem dX9_reckon_61 : decode cX9_reckon 61 = .ok (.iaload, 1) := by decide +kernel
theorem dX9_reckon_62 : decode cX9_reckon 62 = .ok (.iastore, 1) := by decide +kernel
theorem dX9_reckon_63 : decode cX9_reckon 63 = .ok (.iinc 5 1, 3) := by decide +kernel
theorem dX9_reckon_66 : decode cX9_reckon 66 = .ok (.goto (-51), 3) := by decide +kernel
theorem dX9_reckon_69 : decode cX9_reckon 69 = .ok (.iconst 0, 1) := by decide +kernel
theorem dX9_reckon_70 : decode cX9_reckon 70 = .ok (.istore 5, 2) := by decide +kernel
theorem dX9_reckon_72 : decode cX9_reckon 72 = .ok (.iload 5, 2) := by decide +kernel
theorem dX9_reckon_74 : decode cX9_reckon 74 = .ok (.bipush 104, 2) := by decide +kernel
theorem dX9_reckon_76 : decode cX9_reckon 76 = .ok (.if_icmp .ge 152, 3) := by decide +kernel
theorem dX9_reckon_79 : decode cX9_reckon 79 = .ok (.aload_n 0, 1) := by decide +kernel
theorem dX9_reckon_80 : decode cX9_reckon 80 = .ok (.getfield 166, 3) := by decide +kernel
theorem dX9_reckon_83 : decode cX9_reckon 83 = .ok (.iload 5, 2) := by decide +kernel
theorem dX9_reckon_85 : decode cX9_reckon 85 = .ok (.iconst 0, 1) := by decide +kernel
theorem dX9_reckon_86 : decode cX9_reckon 86 = .ok (.iastore, 1) := by decide +kernel
theorem dX9_reckon_87 : decode cX9_reckon 87 = .ok (.aload_n 0, 1) := by decide +kernel
theorem dX9_reckon_88 : decode cX9_reckon 88 = .ok (.getfield 169, 3) := by decide +kernel
theorem dX9_reckon_91 : decode cX9_reckon 91 = .ok (.iload 5, 2) := by decide +kernel
theorem dX9_reckon_93 : decode cX9_reckon 93 = .ok (.iconst 0, 1) := by decide +kernel
theorem dX9_reckon_94 : decode cX9_reckon 94 = .ok (.iastore, 1) := by decide +kernel
theorem dX9_reckon_95 : decode cX9_reckon 95 = .ok (.aload_n 0, 1) := by decide +kernel
theorem dX9_reckon_96 : decode cX9_reckon 96 = .ok (.getfield 172, 3) := by decide +kernel
theorem dX9_reckon_99 : decode cX9_reckon 99 = .ok (.iload 5, 2) := by decide +kernel
theorem dX9_reckon_101 : decode cX9_reckon 101 = .ok (.aload_n 0, 1) := by decide +kernel
theorem dX9_reckon_102 : decode cX9_reckon 102 = .ok (.getfield 79, 3) := by decide +kernel
theorem dX9_reckon_105 : decode cX9_reckon 105 = .ok (.iload_n 1, 1) := by decide +kernel
theorem dX9_reckon_106 : decode cX9_reckon 106 = .ok (.baload, 1) := by decide +kernel
theorem dX9_reckon_107 : decode cX9_reckon 107 = .ok (.ifCond .eq 19, 3) := by decide +kernel
theorem dX9_reckon_110 : decode cX9_reckon 110 = .ok (.aload_n 0, 1) := by decide +kernel
theorem dX9_reckon_111 : decode cX9_reckon 111 = .ok (.iload_n 1, 1) := by decide +kernel
theorem dX9_reckon_112 : decode cX9_reckon 112 = .ok (.bipush 10, 2) := by decide +kernel
theorem dX9_reckon_114 : decode cX9_reckon 114 = .ok (.iload 5, 2) := by decide +kernel
theorem dX9_reckon_116 : decode cX9_reckon 116 = .ok (.invokevirtual 419, 3) := by decide +kernel
theorem dX9_reckon_119 : decode cX9_reckon 119 = .ok (.ifCond .eq 7, 3) := by decide +kernel
theorem dX9_reckon_122 : decode cX9_reckon 122 = .ok (.iconst 1, 1) := by decide +kernel
theorem dX9_reckon_123 : decode cX9_reckon 123 = .ok (.goto 4, 3) := by decide +kernel
theorem dX9_reckon_126 : decode cX9_reckon 126 = .ok (.iconst 0, 1) := by decide +kernel
theorem dX9_reckon_127 : decode cX9_reckon 127 = .ok (.bastore, 1) := by decide +kernel
theorem dX9_reckon_128 : decode cX9_reckon 128 = .ok (.iconst 0, 1) := by decide +kernel
theorem dX9_reckon_129 : decode cX9_reckon 129 = .ok (.istore 6, 2) := by decide +kernel
theorem dX9_reckon_131 : decode cX9_reckon 131 = .ok (.iload 6, 2) := by decide +kernel
theorem dX9_reckon_133 : decode cX9_reckon 133 = .ok (.iconst 5, 1) := by decide +kernel
theorem dX9_reckon_134 : decode cX9_reckon 134 = .ok (.if_icmp .ge 88, 3) := by decide +kernel
theorem dX9_reckon_137 : decode cX9_reckon 137 = .ok (.aload_n 0, 1) := by decide +kernel
theorem dX9_reckon_138 : decode cX9_reckon 138 = .ok (.iload_n 1, 1) := by decide +kernel
theorem dX9_reckon_139 : decode cX9_reckon 139 = .ok (.iload 6, 2) := by decide +kernel
theorem dX9_reckon_141 : decode cX9_reckon 141 = .ok (.iload 5, 2) := by decide +kernel
theorem dX9_reckon_143 : decode cX9_reckon 143 = .ok (.invokevirtual 422, 3) := by decide +kernel
theorem dX9_reckon_146 : decode cX9_reckon 146 = .ok (.istore 7, 2) := by decide +kernel
theorem dX9_reckon_148 : decode cX9_reckon 148 = .ok (.aload_n 0, 1) := by decide +kernel
theorem dX9_reckon_149 : decode cX9_reckon 149 = .ok (.getfield 166, 3) := by decide +kernel
theorem dX9_reckon_152 : decode cX9_reckon 152 = .ok (.iload 5, 2) := by decide +kernel
theorem dX9_reckon_154 : decode cX9_reckon 154 = .ok (.dup2, 1) := by decide +kernel
theorem dX9_reckon_155 : decode cX9_reckon 155 = .ok (.iaload, 1) := by decide +kernel
theorem dX9_reckon_156 : decode cX9_reckon 156 = .ok (.aload_n 0, 1) := by decide +kernel
theorem dX9_reckon_157 : decode cX9_reckon 157 = .ok (.getfield 147, 3) := by decide +kernel
theorem dX9_reckon_160 : decode cX9_reckon 160 = .ok (.bipush 6, 2) := by decide +kernel
theorem dX9_reckon_162 : decode cX9_reckon 162 = .ok (.iload 5, 2) := by decide +kernel
theorem dX9_reckon_164 : decode cX9_reckon 164 = .ok (.imul, 1) := by decide +kernel
theorem dX9_reckon_165 : decode cX9_reckon 165 = .ok (.iload 6, 2) := by decide +kernel
theorem dX9_reckon_167 : decode cX9_reckon 167 = .ok (.iadd, 1) := by decide +kernel
theorem dX9_reckon_168 : decode cX9_reckon 168 = .ok (.iaload, 1) := by decide +kernel
theorem dX9_reckon_169 : decode cX9_reckon 169 = .ok (.iload 7, 2) := by decide +kernel
theorem dX9_reckon_171 : decode cX9_reckon 171 = .ok (.imul, 1) := by decide +kernel
theorem dX9_reckon_172 : decode cX9_reckon 172 = .ok (.bipush 100, 2) := by decide +kernel
theorem dX9_reckon_174 : decode cX9_reckon 174 = .ok (.idiv, 1) := by decide +kernel
theorem dX9_reckon_175 : decode cX9_reckon 175 = .ok (.iadd, 1) := by decide +kernel
theorem dX9_reckon_176 : decode cX9_reckon 176 = .ok (.iastore, 1) := by decide +kernel
theorem dX9_reckon_177 : decode cX9_reckon 177 = .ok (.aload_n 0, 1) := by decide +kernel
theorem dX9_reckon_178 : decode cX9_reckon 178 = .ok (.getfield 169, 3) := by decide +kernel
theorem dX9_reckon_181 : decode cX9_reckon 181 = .ok (.iload 5, 2) := by decide +kernel
theorem dX9_reckon_183 : decode cX9_reckon 183 = .ok (.dup2, 1) := by decide +kernel
theorem dX9_reckon_184 : decode cX9_reckon 184 = .ok (.iaload, 1) := by decide +kernel
theorem dX9_reckon_185 : decode cX9_reckon 185 = .ok (.iload 7, 2) := by decide +kernel
theorem dX9_reckon_187 : decode cX9_reckon 187 = .ok (.ifCond .le 26, 3) := by decide +kernel
theorem dX9_reckon_190 : decode cX9_reckon 190 = .ok (.aload_n 0, 1) := by decide +kernel
theorem dX9_reckon_191 : decode cX9_reckon 191 = .ok (.getfield 147, 3) := by decide +kernel
theorem dX9_reckon_194 : decode cX9_reckon 194 = .ok (.bipush 6, 2) := by decide +kernel
theorem dX9_reckon_196 : decode cX9_reckon 196 = .ok (.iload 5, 2) := by decide +kernel
theorem dX9_reckon_198 : decode cX9_reckon 198 = .ok (.imul, 1) := by decide +kernel
theorem dX9_reckon_199 : decode cX9_reckon 199 = .ok (.iload 6, 2) := by decide +kernel
theorem dX9_reckon_201 : decode cX9_reckon 201 = .ok (.iadd, 1) := by decide +kernel
theorem dX9_reckon_202 : decode cX9_reckon 202 = .ok (.iaload, 1) := by decide +kernel
theorem dX9_reckon_203 : decode cX9_reckon 203 = .ok (.ifCond .le 10, 3) := by decide +kernel
theorem dX9_reckon_206 : decode cX9_reckon 206 = .ok (.iconst 1, 1) := by decide +kernel
theorem dX9_reckon_207 : decode cX9_reckon 207 = .ok (.iload 6, 2) := by decide +kernel
theorem dX9_reckon_209 : decode cX9_reckon 209 = .ok (.ishl, 1) := by decide +kernel
theorem dX9_reckon_210 : decode cX9_reckon 210 = .ok (.goto 4, 3) := by decide +kernel
theorem dX9_reckon_213 : decode cX9_reckon 213 = .ok (.iconst 0, 1) := by decide +kernel
theorem dX9_reckon_214 : decode cX9_reckon 214 = .ok (.ior, 1) := by decide +kernel
theorem dX9_reckon_215 : decode cX9_reckon 215 = .ok (.iastore, 1) := by decide +kernel
theorem dX9_reckon_216 : decode cX9_reckon 216 = .ok (.iinc 6 1, 3) := by decide +kernel
theorem dX9_reckon_219 : decode cX9_reckon 219 = .ok (.goto (-88), 3) := by decide +kernel
theorem dX9_reckon_222 : decode cX9_reckon 222 = .ok (.iinc 5 1, 3) := by decide +kernel
theorem dX9_reckon_225 : decode cX9_reckon 225 = .ok (.goto (-153), 3) := by decide +kernel
theorem dX9_reckon_228 : decode cX9_reckon 228 = .ok (.return_, 1) := by decide +kernel
theorem dX9_averageOf_0 : decode cX9_averageOf 0 = .ok (.aload_n 0, 1) := by decide +kernel
theorem dX9_averageOf_1 : decode cX9_averageOf 1 = .ok (.getfield 129, 3) := by decide +kernel
theorem dX9_averageOf_4 : decode cX9_averageOf 4 = .ok (.iload_n 2, 1) := by decide +kernel
theorem dX9_averageOf_5 : decode cX9_averageOf 5 = .ok (.iaload, 1) := by decide +kernel
theorem dX9_averageOf_6 : decode cX9_averageOf 6 = .ok (.bipush 7, 2) := by decide +kernel
theorem dX9_averageOf_8 : decode cX9_averageOf 8 = .ok (.idiv, 1) := by decide +kernel
theorem dX9_averageOf_9 : decode cX9_averageOf 9 = .ok (.istore_n 3, 1) := by decide +kernel
theorem dX9_averageOf_10 : decode cX9_averageOf 10 = .ok (.iconst 0, 1) := by decide +kernel
theorem dX9_averageOf_11 : decode cX9_averageOf 11 = .ok (.istore 4, 2) := by decide +kernel
theorem dX9_averageOf_13 : decode cX9_averageOf 13 = .ok (.aload_n 0, 1) := by decide +kernel
theorem dX9_averageOf_14 : decode cX9_averageOf 14 = .ok (.iconst 0, 1) := by decide +kernel
theorem dX9_averageOf_15 : decode cX9_averageOf 15 = .ok (.putfield 429, 3) := by decide +kernel
theorem dX9_averageOf_18 : decode cX9_averageOf 18 = .ok (.aload_n 0, 1) := by decide +kernel
theorem dX9_averageOf_19 : decode cX9_averageOf 19 = .ok (.iconst 0, 1) := by decide +kernel
theorem dX9_averageOf_20 : decode cX9_averageOf 20 = .ok (.putfield 432, 3) := by decide +kernel
theorem dX9_averageOf_23 : decode cX9_averageOf 23 = .ok (.iload_n 3, 1) := by decide +kernel
theorem dX9_averageOf_24 : decode cX9_averageOf 24 = .ok (.iconst 1, 1) := by decide +kernel
theorem dX9_averageOf_25 : decode cX9_averageOf 25 = .ok (.isub, 1) := by decide +kernel
theorem dX9_averageOf_26 : decode cX9_averageOf 26 = .ok (.istore 5, 2) := by decide +kernel
theorem dX9_averageOf_28 : decode cX9_averageOf 28 = .ok (.iload 5, 2) := by decide +kernel
theorem dX9_averageOf_30 : decode cX9_averageOf 30 = .ok (.ifCond .lt 94, 3) := by decide +kernel
theorem dX9_averageOf_33 : decode cX9_averageOf 33 = .ok (.iload 5, 2) := by decide +kernel
theorem dX9_averageOf_35 : decode cX9_averageOf 35 = .ok (.iload_n 3, 1) := by decide +kernel
theorem dX9_averageOf_36 : decode cX9_averageOf 36 = .ok (.aload_n 0, 1) := by decide +kernel
theorem dX9_averageOf_37 : decode cX9_averageOf 37 = .ok (.getfield 62, 3) := by decide +kernel
theorem dX9_averageOf_40 : decode cX9_averageOf 40 = .ok (.bipush 7, 2) := by decide +kernel
theorem dX9_averageOf_42 : decode cX9_averageOf 42 = .ok (.iload_n 1, 1) := by decide +kernel
theorem dX9_averageOf_43 : decode cX9_averageOf 43 = .ok (.imul, 1) := by decide +kernel
theorem dX9_averageOf_44 : decode cX9_averageOf 44 = .ok (.iconst 1, 1) := by decide +kernel
theorem dX9_averageOf_45 : decode cX9_averageOf 45 = .ok (.iadd, 1) := by decide +kernel
theorem dX9_averageOf_46 : decode cX9_averageOf 46 = .ok (.iaload, 1) := by decide +kernel
theorem dX9_averageOf_47 : decode cX9_averageOf 47 = .ok (.isub, 1) := by decide +kernel
theorem dX9_averageOf_48 : decode cX9_averageOf 48 = .ok (.if_icmp .lt 76, 3) := by decide +kernel
theorem dX9_averageOf_51 : decode cX9_averageOf 51 = .ok (.aload_n 0, 1) := by decide +kernel
theorem dX9_averageOf_52 : decode cX9_averageOf 52 = .ok (.getfield 429, 3) := by decide +kernel
theorem dX9_averageOf_55 : decode cX9_averageOf 55 = .ok (.aload_n 0, 1) := by decide +kernel
theorem dX9_averageOf_56 : decode cX9_averageOf 56 = .ok (.getfield 62, 3) := by decide +kernel
theorem dX9_averageOf_59 : decode cX9_averageOf 59 = .ok (.bipush 7, 2) := by decide +kernel
theorem dX9_averageOf_61 : decode cX9_averageOf 61 = .ok (.iload_n 1, 1) := by decide +kernel
theorem dX9_averageOf_62 : decode cX9_averageOf 62 = .ok (.imul, 1) := by decide +kernel
theorem dX9_averageOf_63 : decode cX9_averageOf 63 = .ok (.iaload, 1) := by decide +kernel
theorem dX9_averageOf_64 : decode cX9_averageOf 64 = .ok (.if_icmp .ge 60, 3) := by decide +kernel
theorem dX9_averageOf_67 : decode cX9_averageOf 67 = .ok (.aload_n 0, 1) := by decide +kernel
theorem dX9_averageOf_68 : decode cX9_averageOf 68 = .ok (.getfield 172, 3) := by decide +kernel
theorem dX9_averageOf_71 : decode cX9_averageOf 71 = .ok (.iload 5, 2) := by decide +kernel
theorem dX9_averageOf_73 : decode cX9_averageOf 73 = .ok (.baload, 1) := by decide +kernel
theorem dX9_averageOf_74 : decode cX9_averageOf 74 = .ok (.ifCond .eq 6, 3) := by decide +kernel
theorem dX9_averageOf_77 : decode cX9_averageOf 77 = .ok (.goto 41, 3) := by decide +kernel
theorem dX9_averageOf_80 : decode cX9_averageOf 80 = .ok (.iload 4, 2) := by decide +kernel
theorem dX9_averageOf_82 : decode cX9_averageOf 82 = .ok (.aload_n 0, 1) := by decide +kernel
theorem dX9_averageOf_83 : decode cX9_averageOf 83 = .ok (.getfield 166, 3) := by decide +kernel
theorem dX9_averageOf_86 : decode cX9_averageOf 86 = .ok (.iload 5, 2) := by decide +kernel
theorem dX9_averageOf_88 : decode cX9_averageOf 88 = .ok (.iaload, 1) := by decide +kernel
theorem dX9_averageOf_89 : decode cX9_averageOf 89 = .ok (.iadd, 1) := by decide +kernel
theorem dX9_averageOf_90 : decode cX9_averageOf 90 = .ok (.istore 4, 2) := by decide +kernel
theorem dX9_averageOf_92 : decode cX9_averageOf 92 = .ok (.aload_n 0, 1) := by decide +kernel
theorem dX9_averageOf_93 : decode cX9_averageOf 93 = .ok (.dup, 1) := by decide +kernel
theorem dX9_averageOf_94 : decode cX9_averageOf 94 = .ok (.getfield 432, 3) := by decide +kernel
theorem dX9_averageOf_97 : decode cX9_averageOf 97 = .ok (.aload_n 0, 1) := by decide +kernel
theorem dX9_averageOf_98 : decode cX9_averageOf 98 = .ok (.getfield 169, 3) := by decide +kernel
theorem dX9_averageOf_101 : decode cX9_averageOf 101 = .ok (.iload 5, 2) := by decide +kernel
theorem dX9_averageOf_103 : decode cX9_averageOf 103 = .ok (.iaload, 1) := by decide +kernel
theorem dX9_averageOf_104 : decode cX9_averageOf 104 = .ok (.ior, 1) := by decide +kernel
theorem dX9_averageOf_105 : decode cX9_averageOf 105 = .ok (.putfield 432, 3) := by decide +kernel
theorem dX9_averageOf_108 : decode cX9_averageOf 108 = .ok (.aload_n 0, 1) := by decide +kernel
theorem dX9_averageOf_109 : decode cX9_averageOf 109 = .ok (.dup, 1) := by decide +kernel
theorem dX9_averageOf_110 : decode cX9_averageOf 110 = .ok (.getfield 429, 3) := by decide +kernel
theorem dX9_averageOf_113 : decode cX9_averageOf 113 = .ok (.iconst 1, 1) := by decide +kernel
theorem dX9_averageOf_114 : decode cX9_averageOf 114 = .ok (.iadd, 1) := by decide +kernel
theorem dX9_averageOf_115 : decode cX9_averageOf 115 = .ok (.putfield 429, 3) := by decide +kernel
theorem dX9_averageOf_118 : decode cX9_averageOf 118 = .ok (.iinc 5 (-1), 3) := by decide +kernel
theorem dX9_averageOf_121 : decode cX9_averageOf 121 = .ok (.goto (-93), 3) := by decide +kernel
theorem dX9_averageOf_124 : decode cX9_averageOf 124 = .ok (.aload_n 0, 1) := by decide +kernel
theorem dX9_averageOf_125 : decode cX9_averageOf 125 = .ok (.aload_n 0, 1) := by decide +kernel
theorem dX9_averageOf_126 : decode cX9_averageOf 126 = .ok (.getfield 429, 3) := by decide +kernel
theorem dX9_averageOf_129 : decode cX9_averageOf 129 = .ok (.ifCond .ne 7, 3) := by decide +kernel
theorem dX9_averageOf_132 : decode cX9_averageOf 132 = .ok (.iconst 0, 1) := by decide +kernel
theorem dX9_averageOf_133 : decode cX9_averageOf 133 = .ok (.goto 10, 3) := by decide +kernel
theorem dX9_averageOf_136 : decode cX9_averageOf 136 = .ok (.iload 4, 2) := by decide +kernel
theorem dX9_averageOf_138 : decode cX9_averageOf 138 = .ok (.aload_n 0, 1) := by decide +kernel
theorem dX9_averageOf_139 : decode cX9_averageOf 139 = .ok (.getfield 429, 3) := by decide +kernel
theorem dX9_averageOf_142 : decode cX9_averageOf 142 = .ok (.idiv, 1) := by decide +kernel
theorem dX9_averageOf_143 : decode cX9_averageOf 143 = .ok (.putfield 435, 3) := by decide +kernel
theorem dX9_averageOf_146 : decode cX9_averageOf 146 = .ok (.return_, 1) := by decide +kernel
theorem dX9_isIn_0 : decode cX9_isIn 0 = .ok (.iload_n 0, 1) := by decide +kernel
theorem dX9_isIn_1 : decode cX9_isIn 1 = .ok (.iload_n 1, 1) := by decide +kernel
theorem dX9_isIn_2 : decode cX9_isIn 2 = .ok (.if_icmp .lt 12, 3) := by decide +kernel
theorem dX9_isIn_5 : decode cX9_isIn 5 = .ok (.iload_n 0, 1) := by decide +kernel
theorem dX9_isIn_6 : decode cX9_isIn 6 = .ok (.iload_n 2, 1) := by decide +kernel
theorem dX9_isIn_7 : decode cX9_isIn 7 = .ok (.if_icmp .gt 7, 3) := by decide +kernel
theorem dX9_isIn_10 : decode cX9_isIn 10 = .ok (.iconst 1, 1) := by decide +kernel
theorem dX9_isIn_11 : decode cX9_isIn 11 = .ok (.goto 4, 3) := by decide +kernel
theorem dX9_isIn_14 : decode cX9_isIn 14 = .ok (.iconst 0, 1) := by decide +kernel
theorem dX9_isIn_15 : decode cX9_isIn 15 = .ok (.ireturn, 1) := by decide +kernel
theorem dX9_isBarred_0 : decode cX9_isBarred 0 = .ok (.iconst 0, 1) := by decide +kernel
theorem dX9_isBarred_1 : decode cX9_isBarred 1 = .ok (.istore_n 3, 1) := by decide +kernel
theorem dX9_isBarred_2 : decode cX9_isBarred 2 = .ok (.iload_n 3, 1) := by decide +kernel
theorem dX9_isBarred_3 : decode cX9_isBarred 3 = .ok (.aload_n 0, 1) := by decide +kernel
theorem dX9_isBarred_4 : decode cX9_isBarred 4 = .ok (.getfield 340, 3) := by decide +kernel
theorem dX9_isBarred_7 : decode cX9_isBarred 7 = .ok (.if_icmp .ge 51, 3) := by decide +kernel
theorem dX9_isBarred_10 : decode cX9_isBarred 10 = .ok (.aload_n 0, 1) := by decide +kernel
theorem dX9_isBarred_11 : decode cX9_isBarred 11 = .ok (.iload_n 3, 1) := by decide +kernel
theorem dX9_isBarred_12 : decode cX9_isBarred 12 = .ok (.iconst 4, 1) := by decide +kernel
theorem dX9_isBarred_13 : decode cX9_isBarred 13 = .ok (.aload_n 0, 1) := by decide +kernel
theorem dX9_isBarred_14 : decode cX9_isBarred 14 = .ok (.getfield 126, 3) := by decide +kernel
theorem dX9_isBarred_17 : decode cX9_isBarred 17 = .ok (.iload_n 1, 1) := by decide +kernel
theorem dX9_isBarred_18 : decode cX9_isBarred 18 = .ok (.iaload, 1) := by decide +kernel
theorem dX9_isBarred_19 : decode cX9_isBarred 19 = .ok (.iload_n 2, 1) := by decide +kernel
theorem dX9_isBarred_20 : decode cX9_isBarred 20 = .ok (.invokevirtual 362, 3) := by decide +kernel
theorem dX9_isBarred_23 : decode cX9_isBarred 23 = .ok (.ifCond .eq 29, 3) := by decide +kernel
theorem dX9_isBarred_26 : decode cX9_isBarred 26 = .ok (.aload_n 0, 1) := by decide +kernel
theorem dX9_isBarred_27 : decode cX9_isBarred 27 = .ok (.getfield 129, 3) := by decide +kernel
theorem dX9_isBarred_30 : decode cX9_isBarred 30 = .ok (.iload_n 1, 1) := by decide +kernel
theorem dX9_isBarred_31 : decode cX9_isBarred 31 = .ok (.iaload, 1) := by decide +kernel
theorem dX9_isBarred_32 : decode cX9_isBarred 32 = .ok (.aload_n 0, 1) := by decide +kernel
theorem dX9_isBarred_33 : decode cX9_isBarred 33 = .ok (.getfield 129, 3) := by decide +kernel
theorem dX9_isBarred_36 : decode cX9_isBarred 36 = .ok (.iload_n 3, 1) := by decide +kernel
theorem dX9_isBarred_37 : decode cX9_isBarred 37 = .ok (.iaload, 1) := by decide +kernel
theorem dX9_isBarred_38 : decode cX9_isBarred 38 = .ok (.aload_n 0, 1) := by decide +kernel
theorem dX9_isBarred_39 : decode cX9_isBarred 39 = .ok (.getfield 132, 3) := by decide +kernel
theorem dX9_isBarred_42 : decode cX9_isBarred 42 = .ok (.iload_n 3, 1) := by decide +kernel
theorem dX9_isBarred_43 : decode cX9_isBarred 43 = .ok (.iaload, 1) := by decide +kernel
theorem dX9_isBarred_44 : decode cX9_isBarred 44 = .ok (.invokestatic 333, 3) := by decide +kernel
theorem dX9_isBarred_47 : decode cX9_isBarred 47 = .ok (.ifCond .eq 5, 3) := by decide +kernel
theorem dX9_isBarred_50 : decode cX9_isBarred 50 = .ok (.iconst 1, 1) := by decide +kernel
theorem dX9_isBarred_51 : decode cX9_isBarred 51 = .ok (.ireturn, 1) := by decide +kernel
theorem dX9_isBarred_52 : decode cX9_isBarred 52 = .ok (.iinc 3 1, 3) := by decide +kernel
theorem dX9_isBarred_55 : decode cX9_isBarred 55 = .ok (.goto (-53), 3) := by decide +kernel
theorem dX9_isBarred_58 : decode cX9_isBarred 58 = .ok (.iconst 0, 1) := by decide +kernel
theorem dX9_isBarred_59 : decode cX9_isBarred 59 = .ok (.ireturn, 1) := by decide +kernel
theorem dX9_owedOf_0 : decode cX9_owedOf 0 = .ok (.aload_n 0, 1) := by decide +kernel
theorem dX9_owedOf_1 : decode cX9_owedOf 1 = .ok (.iload_n 1, 1) := by decide +kernel
theorem dX9_owedOf_2 : decode cX9_owedOf 2 = .ok (.iload_n 2, 1) := by decide +kernel
theorem dX9_owedOf_3 : decode cX9_owedOf 3 = .ok (.invokevirtual 438, 3) := by decide +kernel
theorem dX9_owedOf_6 : decode cX9_owedOf 6 = .ok (.aload_n 0, 1) := by decide +kernel
theorem dX9_owedOf_7 : decode cX9_owedOf 7 = .ok (.getfield 435, 3) := by decide +kernel
theorem dX9_owedOf_10 : decode cX9_owedOf 10 = .ok (.aload_n 0, 1) := by decide +kernel
theorem dX9_owedOf_11 : decode cX9_owedOf 11 = .ok (.getfield 132, 3) := by decide +kernel
theorem dX9_owedOf_14 : decode cX9_owedOf 14 = .ok (.iload_n 2, 1) := by decide +kernel
theorem dX9_owedOf_15 : decode cX9_owedOf 15 = .ok (.iaload, 1) := by decide +kernel
theorem dX9_owedOf_16 : decode cX9_owedOf 16 = .ok (.imul, 1) := by decide +kernel
theorem dX9_owedOf_17 : decode cX9_owedOf 17 = .ok (.aload_n 0, 1) := by decide +kernel
theorem dX9_owedOf_18 : decode cX9_owedOf 18 = .ok (.getfield 62, 3) := by decide +kernel
theorem dX9_owedOf_21 : decode cX9_owedOf 21 = .ok (.bipush 7, 2) := by decide +kernel
theorem dX9_owedOf_23 : decode cX9_owedOf 23 = .ok (.iload_n 1, 1) := by decide +kernel
theorem dX9_owedOf_24 : decode cX9_owedOf 24 = .ok (.imul, 1) := by decide +kernel
theorem dX9_owedOf_25 : decode cX9_owedOf 25 = .ok (.iconst 2, 1) := by decide +kernel
theorem dX9_owedOf_26 : decode cX9_owedOf 26 = .ok (.iadd, 1) := by decide +kernel
theorem dX9_owedOf_27 : decode cX9_owedOf 27 = .ok (.iaload, 1) := by decide +kernel
theorem dX9_owedOf_28 : decode cX9_owedOf 28 = .ok (.idiv, 1) := by decide +kernel
theorem dX9_owedOf_29 : decode cX9_owedOf 29 = .ok (.aload_n 0, 1) := by decide +kernel
theorem dX9_owedOf_30 : decode cX9_owedOf 30 = .ok (.getfield 135, 3) := by decide +kernel
theorem dX9_owedOf_33 : decode cX9_owedOf 33 = .ok (.iload_n 2, 1) := by decide +kernel
theorem dX9_owedOf_34 : decode cX9_owedOf 34 = .ok (.iaload, 1) := by decide +kernel
theorem dX9_owedOf_35 : decode cX9_owedOf 35 = .ok (.isub, 1) := by decide +kernel
theorem dX9_owedOf_36 : decode cX9_owedOf 36 = .ok (.istore 4, 2) := by decide +kernel
theorem dX9_owedOf_38 : decode cX9_owedOf 38 = .ok (.iload 4, 2) := by decide +kernel
theorem dX9_owedOf_40 : decode cX9_owedOf 40 = .ok (.ifCond .le 12, 3) := by decide +kernel
theorem dX9_owedOf_43 : decode cX9_owedOf 43 = .ok (.aload_n 0, 1) := by decide +kernel
theorem dX9_owedOf_44 : decode cX9_owedOf 44 = .ok (.iload_n 2, 1) := by decide +kernel
theorem dX9_owedOf_45 : decode cX9_owedOf 45 = .ok (.iload_n 3, 1) := by decide +kernel
theorem dX9_owedOf_46 : decode cX9_owedOf 46 = .ok (.invokevirtual 441, 3) := by decide +kernel
theorem dX9_owedOf_49 : decode cX9_owedOf 49 = .ok (.ifCond .eq 7, 3) := by decide +kernel
theorem dX9_owedOf_52 : decode cX9_owedOf 52 = .ok (.iconst 0, 1) := by decide +kernel
theorem dX9_owedOf_53 : decode cX9_owedOf 53 = .ok (.goto 5, 3) := by decide +kernel
theorem dX9_owedOf_56 : decode cX9_owedOf 56 = .ok (.iload 4, 2) := by decide +kernel
theorem dX9_owedOf_58 : decode cX9_owedOf 58 = .ok (.ireturn, 1) := by decide +kernel
def f_X9_totalOf_L4 : Nat → Nat → Int32 → Int32 → Int32 → Hp → Option ((Int32 × Hp))
  | 0, _, _, _, _, _ => none
  | n + 1, a0, v1, v2, v3, h =>
    if (5 : Int32) ≤ v3 then
      some (v2, h)
    else
      (getQ h (some a0) 8 43).bind fun x2 =>
      (rdI h x2 10 (((6 : Int32) * v1) + v3)).bind fun x4 =>
      f_X9_totalOf_L4 n a0 v1 (v2 + x4) (v3 + 1) h
def f_X9_totalOf (a0 : Nat) (v1 : Int32) (h : Hp) : Option (Int32 × Hp) :=
  b1 (f_X9_totalOf_L4 fu a0 v1 0 0 h) fun w6 h7 =>
  some (w6, h7)
set_option maxHeartbeats 4000000 in
theorem tl_X9_totalOf_4 (E : En) (d : Nat) {mc ms : Nat} {K : Option Vv → Hp → Prop} : ∀ (n : Nat) (a0 : Nat) (v1 : Int32) (v2 : Int32) (v3 : Int32) (h : Hp) (u2 : Int32) (hz : Hp), f_X9_totalOf_L4 n a0 v1 v2 v3 h = some (u2, hz) → MW E m_X9_totalOf (d + 0) mc ms 29 [none, none, some (vi u2), none] [] hz K → MW E m_X9_totalOf (d + 0) mc ms 4 [some (vq (some a0)), some (vi v1), some (vi v2), some (vi v3)] [] h K := by
  intro n
  induction n with
  | zero => intro a0 v1 v2 v3 h u2 hz hf; exact nomatch (show none = some _ from hf)
  | succ n ih =>
    intro a0 v1 v2 v3 h u2 hz hf hX29
    rw [f_X9_totalOf_L4] at hf
    refine mw_iload_n (x := v3) dX9_totalOf_4 rfl ?_
    refine mw_iconst (v := 5) dX9_totalOf_5 (by decide) ?_
    refine mw_icmp_ge (tgt := 29) dX9_totalOf_6 rfl (fun c1 => ?_) (fun c1 => ?_)
    · rw [if_pos c1] at hf
      obtain ⟨rfl, rfl⟩ := y1 hf
      exact MW.sub (subL_n (subL_n (subL_s (subL_n subL_nil)))) hX29
    · rw [if_neg c1] at hf
      refine mw_iload_n (x := v2) dX9_totalOf_9 rfl ?_
      refine mw_aload_n (x := (some a0)) dX9_totalOf_10 rfl ?_
      obtain ⟨x2, e3, hf⟩ := ob hf
      refine ml_getQ dX9_totalOf_11 fl_RX9_147 rfl e3 ?_
      refine mw_bipush (v := 6) dX9_totalOf_14 (by decide) ?_
      refine mw_iload_n (x := v1) dX9_totalOf_16 rfl ?_
      refine mw_imul dX9_totalOf_17 ?_
      refine mw_iload_n (x := v3) dX9_totalOf_18 rfl ?_
      refine mw_iadd dX9_totalOf_19 ?_
      obtain ⟨x4, e5, hf⟩ := ob hf
      refine ml_iald dX9_totalOf_20 e5 ?_
      refine mw_iadd dX9_totalOf_21 ?_
      refine mw_istore_n dX9_totalOf_22 (by decide) rfl ?_
      refine mw_iinc (x := v3) (v := v3 + 1) dX9_totalOf_23 rfl rfl (by decide) rfl ?_
      refine mw_goto (tgt := 4) dX9_totalOf_26 rfl ?_
      exact MW.sub (subL_s (subL_s (subL_s (subL_s subL_nil)))) (ih _ _ _ _ _ _ _ hf hX29)
set_option maxHeartbeats 4000000 in
theorem t_X9_totalOf (E : En) (d : Nat) {mc ms : Nat} {a0 : Nat} {v1 : Int32} {h h' : Hp} {r : Int32} {K : Option Vv → Hp → Prop} (hf : f_X9_totalOf a0 v1 h = some (r, h')) (hk : K (some (vi r)) h') : MC E m_X9_totalOf (d + 0) mc ms [vq (some a0), vi v1] h K := by
  unfold f_X9_totalOf at hf
  show MW E m_X9_totalOf (d + 0) mc ms 0 [some (vq (some a0)), some (vi v1), none, none] [] h K
  refine mw_iconst (v := 0) dX9_totalOf_0 (by decide) ?_
  refine mw_istore_n dX9_totalOf_1 (by decide) rfl ?_
  refine mw_iconst (v := 0) dX9_totalOf_2 (by decide) ?_
  refine mw_istore_n dX9_totalOf_3 (by decide) rfl ?_
  obtain ⟨w6, h7, e8, hf⟩ := ob1 hf
  refine MW.sub (subL_s (subL_s (subL_s (subL_s subL_nil)))) (tl_X9_totalOf_4 E d _ _ _ _ _ _ _ _ e8 ?_)
  refine mw_iload_n (x := w6) dX9_totalOf_29 rfl ?_
  obtain ⟨rfl, rfl⟩ := y1 hf
  exact mw_ireturn dX9_totalOf_30 rfl rfl hk
def f_X9_draw (a0 : Nat) (v1 : Int32) (v2 : Int32) (v3 : Int64) (h : Hp) : Option (Hp) :=
  (getQ h (some a0) 8 48).bind fun x1 =>
  (rdJ h x1 11 v1).bind fun x3 =>
  if (0 : Int32) ≤ (lg_cmp x3 (1000000000 : Int64)) then
    some h
  else
    (getQ h (some a0) 8 48).bind fun x6 =>
    (rdJ h x6 11 v1).bind fun x8 =>
    (getQ h (some a0) 8 48).bind fun x10 =>
    (rdJ h x10 11 v2).bind fun x12 =>
    if (lg_cmp (x8 + v3) x12) < (0 : Int32) then
      (getQ h (some a0) 8 48).bind fun x15 =>
      (getQ h (some a0) 8 48).bind fun x17 =>
      (rdJ h x17 11 v1).bind fun x19 =>
      (wrJ h x15 v2 (x19 + v3)).bind fun h21 =>
      (putZ h21 (some a0) 8 51 1).bind fun h23 =>
      some h23
    else
      some h
set_option maxHeartbeats 4000000 in
theorem t_X9_draw (E : En) (d : Nat) {mc ms : Nat} {a0 : Nat} {v1 : Int32} {v2 : Int32} {v3 : Int64} {h h' : Hp} {K : Option Vv → Hp → Prop} (hf : f_X9_draw a0 v1 v2 v3 h = some h') (hk : K none h') : MC E m_X9_draw (d + 0) mc ms [vq (some a0), vi v1, vi v2, vl v3] h K := by
  unfold f_X9_draw at hf
  show MW E m_X9_draw (d + 0) mc ms 0 [some (vq (some a0)), some (vi v1), some (vi v2), some (vl v3), none] [] h K
  refine mw_aload_n (x := (some a0)) dX9_draw_0 rfl ?_
  obtain ⟨x1, e2, hf⟩ := ob hf
  refine ml_getQ dX9_draw_1 fl_RX9_162 rfl e2 ?_
  refine mw_iload_n (x := v1) dX9_draw_4 rfl ?_
  obtain ⟨x3, e4, hf⟩ := ob hf
  refine ml_lald dX9_draw_5 e4 ?_
  refine mw_ldc2 dX9_draw_6 kc_RX9_375 ?_
  refine mw_lcmp dX9_draw_9 ?_
  refine mw_if_ge (tgt := 31) dX9_draw_10 rfl (fun c5 => ?_) (fun c5 => ?_)
  · rw [if_pos c5] at hf
    obtain rfl := y0 hf
    exact mw_return dX9_draw_31 rfl hk
  · rw [if_neg c5] at hf
    refine mw_aload_n (x := (some a0)) dX9_draw_13 rfl ?_
    obtain ⟨x6, e7, hf⟩ := ob hf
    refine ml_getQ dX9_draw_14 fl_RX9_162 rfl e7 ?_
    refine mw_iload_n (x := v1) dX9_draw_17 rfl ?_
    obtain ⟨x8, e9, hf⟩ := ob hf
    refine ml_lald dX9_draw_18 e9 ?_
    refine mw_lload_n (x := v3) dX9_draw_19 rfl ?_
    refine mw_ladd dX9_draw_20 ?_
    refine mw_aload_n (x := (some a0)) dX9_draw_21 rfl ?_
    obtain ⟨x10, e11, hf⟩ := ob hf
    refine ml_getQ dX9_draw_22 fl_RX9_162 rfl e11 ?_
    refine mw_iload_n (x := v2) dX9_draw_25 rfl ?_
    obtain ⟨x12, e13, hf⟩ := ob hf
    refine ml_lald dX9_draw_26 e13 ?_
    refine mw_lcmp dX9_draw_27 ?_
    refine mw_if_lt (tgt := 32) dX9_draw_28 rfl (fun c14 => ?_) (fun c14 => ?_)
    · rw [if_pos c14] at hf
      refine mw_aload_n (x := (some a0)) dX9_draw_32 rfl ?_
      obtain ⟨x15, e16, hf⟩ := ob hf
      refine ml_getQ dX9_draw_33 fl_RX9_162 rfl e16 ?_
      refine mw_iload_n (x := v2) dX9_draw_36 rfl ?_
      refine mw_aload_n (x := (some a0)) dX9_draw_37 rfl ?_
      obtain ⟨x17, e18, hf⟩ := ob hf
      refine ml_getQ dX9_draw_38 fl_RX9_162 rfl e18 ?_
      refine mw_iload_n (x := v1) dX9_draw_41 rfl ?_
      obtain ⟨x19, e20, hf⟩ := ob hf
      refine ml_lald dX9_draw_42 e20 ?_
      refine mw_lload_n (x := v3) dX9_draw_43 rfl ?_
      refine mw_ladd dX9_draw_44 ?_
      obtain ⟨h21, e22, hf⟩ := ob hf
      refine ml_last dX9_draw_45 e22 ?_
      refine mw_aload_n (x := (some a0)) dX9_draw_46 rfl ?_
      refine mw_iconst (v := 1) dX9_draw_47 (by decide) ?_
      obtain ⟨h23, e24, hf⟩ := ob hf
      refine ml_putZ dX9_draw_48 fl_RX9_377 (Or.inl rfl) rfl rfl e24 ?_
      obtain rfl := y0 hf
      exact mw_return dX9_draw_51 rfl hk
    · rw [if_neg c14] at hf
      obtain rfl := y0 hf
      exact mw_return dX9_draw_31 rfl hk
def f_X9_drawAll_L2 : Nat → Nat → Int32 → Int32 → Hp → Option ((Hp))
  | 0, _, _, _, _ => none
  | n + 1, a0, v1, v2, h =>
    if (104 : Int32) ≤ v2 then
      some h
    else
      (getQ h (some a0) 8 47).bind fun x2 =>
      (rdI h x2 12 v2).bind fun x4 =>
      b1 ((if x4 = (0 : Int32) then
          (rc h (some a0) 8).bind fun g14 =>
          b1 (f_X9_totalOf g14 v2 h) fun x16 h12 =>
          some ((x16.toInt64), h12)
        else
          some (0, h) : Option (Int64 × Hp))) fun w17 h18 =>
      (getQ h18 (some a0) 8 47).bind fun x20 =>
      (rdI h18 x20 12 v2).bind fun x22 =>
      b1 ((if x22 = (0 : Int32) then
          some (w17, h18)
        else
          some (9999, h18) : Option (Int64 × Hp))) fun w25 h26 =>
      (rc h26 (some a0) 8).bind fun g30 =>
      (f_X9_draw g30 v2 (v2 + (1 : Int32)) w25 h26).bind fun h28 =>
      (rc h28 (some a0) 8).bind fun g34 =>
      (f_X9_draw g34 (v2 + (1 : Int32)) v2 (-w17) h28).bind fun h32 =>
      f_X9_drawAll_L2 n a0 v1 (v2 + 1) h32
def f_X9_drawAll_L70 : Nat → Nat → Int32 → Int32 → Hp → Option ((Hp))
  | 0, _, _, _, _ => none
  | n + 1, a0, v1, v2, h =>
    (getI h (some a0) 8 49).bind fun x37 =>
    if x37 ≤ v2 then
      some h
    else
      Option.bind ((if ((v1 >>> (v2 &&& 31)) &&& (1 : Int32)) = (1 : Int32) then
          some h
        else
          (getQ h (some a0) 8 34).bind fun x97 =>
          (getQ h (some a0) 8 46).bind fun x99 =>
          (rdI h x99 10 v2).bind fun x101 =>
          (rdI h x97 10 x101).bind fun x103 =>
          (getQ h (some a0) 8 35).bind fun x105 =>
          (getQ h (some a0) 8 46).bind fun x107 =>
          (rdI h x107 10 v2).bind fun x109 =>
          (rdI h x105 10 x109).bind fun x111 =>
          (getQ h (some a0) 8 36).bind fun x113 =>
          (getQ h (some a0) 8 46).bind fun x115 =>
          (rdI h x115 10 v2).bind fun x117 =>
          (rdI h x113 10 x117).bind fun x119 =>
          (rc h (some a0) 8).bind fun g123 =>
          (f_X9_draw g123 x103 (x111 + (1 : Int32)) (x119.toInt64) h).bind fun h121 =>
          (getQ h121 (some a0) 8 35).bind fun x125 =>
          (getQ h121 (some a0) 8 46).bind fun x127 =>
          (rdI h121 x127 10 v2).bind fun x129 =>
          (rdI h121 x125 10 x129).bind fun x131 =>
          (getQ h121 (some a0) 8 34).bind fun x133 =>
          (getQ h121 (some a0) 8 46).bind fun x135 =>
          (rdI h121 x135 10 v2).bind fun x137 =>
          (rdI h121 x133 10 x137).bind fun x139 =>
          (getQ h121 (some a0) 8 36).bind fun x141 =>
          (getQ h121 (some a0) 8 46).bind fun x143 =>
          (rdI h121 x143 10 v2).bind fun x145 =>
          (rdI h121 x141 10 x145).bind fun x147 =>
          (rc h121 (some a0) 8).bind fun g151 =>
          (f_X9_draw g151 (x131 + (1 : Int32)) x139 ((-x147).toInt64) h121).bind fun h149 =>
          some h149 : Option (Hp))) fun h153 =>
      f_X9_drawAll_L70 n a0 v1 (v2 + 1) h153
def f_X9_drawAll (a0 : Nat) (v1 : Int32) (h : Hp) : Option (Hp) :=
  (f_X9_drawAll_L2 fu a0 v1 0 h).bind fun h36 =>
  (f_X9_drawAll_L70 fu a0 v1 0 h36).bind fun h155 =>
  some h155
set_option maxHeartbeats 4000000 in
theorem tl_X9_drawAll_2 (E : En) (d : Nat) {mc ms : Nat} {K : Option Vv → Hp → Prop} : ∀ (n : Nat) (a0 : Nat) (v1 : Int32) (v2 : Int32) (h : Hp) (hz : Hp), f_X9_drawAll_L2 n a0 v1 v2 h = some hz → MW E m_X9_drawAll (d + 1) mc ms 68 [some (vq (some a0)), some (vi v1), none, none, none] [] hz K → MW E m_X9_drawAll (d + 1) mc ms 2 [some (vq (some a0)), some (vi v1), some (vi v2), none, none] [] h K := by
  intro n
  induction n with
  | zero => intro a0 v1 v2 h hz hf; exact nomatch (show none = some _ from hf)
  | succ n ih =>
    intro a0 v1 v2 h hz hf hX68
    rw [f_X9_drawAll_L2] at hf
    refine mw_iload_n (x := v2) dX9_drawAll_2 rfl ?_
    refine mw_bipush (v := 104) dX9_drawAll_3 (by decide) ?_
    refine mw_icmp_ge (tgt := 68) dX9_drawAll_5 rfl (fun c1 => ?_) (fun c1 => ?_)
    · rw [if_pos c1] at hf
      obtain rfl := y0 hf
      exact MW.sub (subL_s (subL_s (subL_n (subL_n (subL_n subL_nil))))) hX68
    · rw [if_neg c1] at hf
      refine mw_aload_n (x := (some a0)) dX9_drawAll_8 rfl ?_
      obtain ⟨x2, e3, hf⟩ := ob hf
      refine ml_getQ dX9_drawAll_9 fl_RX9_159 rfl e3 ?_
      refine mw_iload_n (x := v2) dX9_drawAll_12 rfl ?_
      obtain ⟨x4, e5, hf⟩ := ob hf
      refine ml_zald dX9_drawAll_13 e5 ?_
      obtain ⟨w17, h18, r19, hf⟩ := ob1 hf
      have J160 : MW E m_X9_drawAll (d + 1) mc ms 27 [some (vq (some a0)), some (vi v1), some (vi v2), none, none] [vl w17] h18 K := by
        refine mw_lstore_n dX9_drawAll_27 (by decide) rfl ?_
        refine mw_aload_n (x := (some a0)) dX9_drawAll_28 rfl ?_
        refine mw_iload_n (x := v2) dX9_drawAll_29 rfl ?_
        refine mw_iload_n (x := v2) dX9_drawAll_30 rfl ?_
        refine mw_iconst (v := 1) dX9_drawAll_31 (by decide) ?_
        refine mw_iadd dX9_drawAll_32 ?_
        refine mw_aload_n (x := (some a0)) dX9_drawAll_33 rfl ?_
        obtain ⟨x20, e21, hf⟩ := ob hf
        refine ml_getQ dX9_drawAll_34 fl_RX9_159 rfl e21 ?_
        refine mw_iload_n (x := v2) dX9_drawAll_37 rfl ?_
        obtain ⟨x22, e23, hf⟩ := ob hf
        refine ml_zald dX9_drawAll_38 e23 ?_
        obtain ⟨w25, h26, r27, hf⟩ := ob1 hf
        have J161 : MW E m_X9_drawAll (d + 1) mc ms 49 [some (vq (some a0)), some (vi v1), some (vi v2), some (vl w17), none] [vl w25, vi (v2 + (1 : Int32)), vi v2, vq (some a0)] h26 K := by
          obtain ⟨g30, e31, hf⟩ := ob hf
          obtain ⟨h28, e29, hf⟩ := ob hf
          refine ml_callV (ci := 8) (mc' := 0) (ms' := 0) [vi v2, vi (v2 + (1 : Int32)), vl w25] dX9_drawAll_49 mk_X9_draw lk_RX9_386 im_X9_draw se_X9_draw (by decide) e31 rfl (Nat.le_of_ble_eq_true rfl) (Nat.le_of_ble_eq_true rfl) (t_X9_draw E _ e29 isR_rfl) ?_
          refine mw_aload_n (x := (some a0)) dX9_drawAll_52 rfl ?_
          refine mw_iload_n (x := v2) dX9_drawAll_53 rfl ?_
          refine mw_iconst (v := 1) dX9_drawAll_54 (by decide) ?_
          refine mw_iadd dX9_drawAll_55 ?_
          refine mw_iload_n (x := v2) dX9_drawAll_56 rfl ?_
          refine mw_lload_n (x := w17) dX9_drawAll_57 rfl ?_
          refine mw_lneg dX9_drawAll_58 ?_
          obtain ⟨g34, e35, hf⟩ := ob hf
          obtain ⟨h32, e33, hf⟩ := ob hf
          refine ml_callV (ci := 8) (mc' := 0) (ms' := 0) [vi (v2 + (1 : Int32)), vi v2, vl (-w17)] dX9_drawAll_59 mk_X9_draw lk_RX9_386 im_X9_draw se_X9_draw (by decide) e35 rfl (Nat.le_of_ble_eq_true rfl) (Nat.le_of_ble_eq_true rfl) (t_X9_draw E _ e33 isR_rfl) ?_
          refine mw_iinc (x := v2) (v := v2 + 1) dX9_drawAll_62 rfl rfl (by decide) rfl ?_
          refine mw_goto (tgt := 2) dX9_drawAll_65 rfl ?_
          exact MW.sub (subL_s (subL_s (subL_s (subL_n (subL_n subL_nil))))) (ih _ _ _ _ _ hf hX68)
        refine mw_if_eq (tgt := 48) dX9_drawAll_39 rfl (fun c24 => ?_) (fun c24 => ?_)
        · rw [if_pos c24] at r27
          refine mw_lload_n (x := w17) dX9_drawAll_48 rfl ?_
          obtain ⟨rfl, rfl⟩ := y1 r27
          exact MW.sub (subL_s (subL_s (subL_s (subL_s (subL_n subL_nil))))) J161
        · rw [if_neg c24] at r27
          refine mw_ldc2 dX9_drawAll_42 kc_RX9_384 ?_
          refine mw_goto (tgt := 49) dX9_drawAll_45 rfl ?_
          obtain ⟨rfl, rfl⟩ := y1 r27
          exact MW.sub (subL_s (subL_s (subL_s (subL_s (subL_n subL_nil))))) J161
      refine mw_if_eq (tgt := 21) dX9_drawAll_14 rfl (fun c6 => ?_) (fun c6 => ?_)
      · rw [if_pos c6] at r19
        refine mw_aload_n (x := (some a0)) dX9_drawAll_21 rfl ?_
        refine mw_iload_n (x := v2) dX9_drawAll_22 rfl ?_
        obtain ⟨g14, e15, r19⟩ := ob r19
        obtain ⟨x16, h12, e13, r19⟩ := ob1 r19
        refine ml_callV (ci := 8) (mc' := 0) (ms' := 0) [vi v2] dX9_drawAll_23 mk_X9_totalOf lk_RX9_381 im_X9_totalOf se_X9_totalOf (by decide) e15 rfl (Nat.le_of_ble_eq_true rfl) (Nat.le_of_ble_eq_true rfl) (t_X9_totalOf E _ e13 isR_rfl) ?_
        refine mw_i2l dX9_drawAll_26 ?_
        obtain ⟨rfl, rfl⟩ := y1 r19
        exact MW.sub (subL_s (subL_s (subL_s (subL_n (subL_n subL_nil))))) J160
      · rw [if_neg c6] at r19
        refine mw_lconst (v := 0) dX9_drawAll_17 (by decide) ?_
        refine mw_goto (tgt := 27) dX9_drawAll_18 rfl ?_
        obtain ⟨rfl, rfl⟩ := y1 r19
        exact MW.sub (subL_s (subL_s (subL_s (subL_n (subL_n subL_nil))))) J160
set_option maxHeartbeats 4000000 in
theorem tl_X9_drawAll_70 (E : En) (d : Nat) {mc ms : Nat} {K : Option Vv → Hp → Prop} : ∀ (n : Nat) (a0 : Nat) (v1 : Int32) (v2 : Int32) (h : Hp) (hz : Hp), f_X9_drawAll_L70 n a0 v1 v2 h = some hz → MW E m_X9_drawAll (d + 1) mc ms 177 [none, none, none, none, none] [] hz K → MW E m_X9_drawAll (d + 1) mc ms 70 [some (vq (some a0)), some (vi v1), some (vi v2), none, none] [] h K := by
  intro n
  induction n with
  | zero => intro a0 v1 v2 h hz hf; exact nomatch (show none = some _ from hf)
  | succ n ih =>
    intro a0 v1 v2 h hz hf hX177
    rw [f_X9_drawAll_L70] at hf
    refine mw_iload_n (x := v2) dX9_drawAll_70 rfl ?_
    refine mw_aload_n (x := (some a0)) dX9_drawAll_71 rfl ?_
    obtain ⟨x37, e38, hf⟩ := ob hf
    refine ml_getI dX9_drawAll_72 fl_RX9_359 rfl e38 ?_
    refine mw_icmp_ge (tgt := 177) dX9_drawAll_75 rfl (fun c39 => ?_) (fun c39 => ?_)
    · rw [if_pos c39] at hf
      obtain rfl := y0 hf
      exact MW.sub (subL_n (subL_n (subL_n (subL_n (subL_n subL_nil))))) hX177
    · rw [if_neg c39] at hf
      refine mw_iload_n (x := v1) dX9_drawAll_78 rfl ?_
      refine mw_iload_n (x := v2) dX9_drawAll_79 rfl ?_
      refine mw_ishr dX9_drawAll_80 ?_
      refine mw_iconst (v := 1) dX9_drawAll_81 (by decide) ?_
      refine mw_iand dX9_drawAll_82 ?_
      refine mw_iconst (v := 1) dX9_drawAll_83 (by decide) ?_
      obtain ⟨h153, r154, hf⟩ := ob hf
      have J162 : MW E m_X9_drawAll (d + 1) mc ms 171 [some (vq (some a0)), some (vi v1), some (vi v2), none, none] [] h153 K := by
        refine mw_iinc (x := v2) (v := v2 + 1) dX9_drawAll_171 rfl rfl (by decide) rfl ?_
        refine mw_goto (tgt := 70) dX9_drawAll_174 rfl ?_
        exact MW.sub (subL_s (subL_s (subL_s (subL_n (subL_n subL_nil))))) (ih _ _ _ _ _ hf hX177)
      refine mw_icmp_ne (tgt := 90) dX9_drawAll_84 rfl (fun c40 => ?_) (fun c40 => ?_)
      · rw [if_neg c40] at r154
        refine mw_aload_n (x := (some a0)) dX9_drawAll_90 rfl ?_
        refine mw_aload_n (x := (some a0)) dX9_drawAll_91 rfl ?_
        obtain ⟨x97, e98, r154⟩ := ob r154
        refine ml_getQ dX9_drawAll_92 fl_RX9_129 rfl e98 ?_
        refine mw_aload_n (x := (some a0)) dX9_drawAll_95 rfl ?_
        obtain ⟨x99, e100, r154⟩ := ob r154
        refine ml_getQ dX9_drawAll_96 fl_RX9_156 rfl e100 ?_
        refine mw_iload_n (x := v2) dX9_drawAll_99 rfl ?_
        obtain ⟨x101, e102, r154⟩ := ob r154
        refine ml_iald dX9_drawAll_100 e102 ?_
        obtain ⟨x103, e104, r154⟩ := ob r154
        refine ml_iald dX9_drawAll_101 e104 ?_
        refine mw_aload_n (x := (some a0)) dX9_drawAll_102 rfl ?_
        obtain ⟨x105, e106, r154⟩ := ob r154
        refine ml_getQ dX9_drawAll_103 fl_RX9_132 rfl e106 ?_
        refine mw_aload_n (x := (some a0)) dX9_drawAll_106 rfl ?_
        obtain ⟨x107, e108, r154⟩ := ob r154
        refine ml_getQ dX9_drawAll_107 fl_RX9_156 rfl e108 ?_
        refine mw_iload_n (x := v2) dX9_drawAll_110 rfl ?_
        obtain ⟨x109, e110, r154⟩ := ob r154
        refine ml_iald dX9_drawAll_111 e110 ?_
        obtain ⟨x111, e112, r154⟩ := ob r154
        refine ml_iald dX9_drawAll_112 e112 ?_
        refine mw_iconst (v := 1) dX9_drawAll_113 (by decide) ?_
        refine mw_iadd dX9_drawAll_114 ?_
        refine mw_aload_n (x := (some a0)) dX9_drawAll_115 rfl ?_
        obtain ⟨x113, e114, r154⟩ := ob r154
        refine ml_getQ dX9_drawAll_116 fl_RX9_135 rfl e114 ?_
        refine mw_aload_n (x := (some a0)) dX9_drawAll_119 rfl ?_
        obtain ⟨x115, e116, r154⟩ := ob r154
        refine ml_getQ dX9_drawAll_120 fl_RX9_156 rfl e116 ?_
        refine mw_iload_n (x := v2) dX9_drawAll_123 rfl ?_
        obtain ⟨x117, e118, r154⟩ := ob r154
        refine ml_iald dX9_drawAll_124 e118 ?_
        obtain ⟨x119, e120, r154⟩ := ob r154
        refine ml_iald dX9_drawAll_125 e120 ?_
        refine mw_i2l dX9_drawAll_126 ?_
        obtain ⟨g123, e124, r154⟩ := ob r154
        obtain ⟨h121, e122, r154⟩ := ob r154
        refine ml_callV (ci := 8) (mc' := 0) (ms' := 0) [vi x103, vi (x111 + (1 : Int32)), vl (x119.toInt64)] dX9_drawAll_127 mk_X9_draw lk_RX9_386 im_X9_draw se_X9_draw (by decide) e124 rfl (Nat.le_of_ble_eq_true rfl) (Nat.le_of_ble_eq_true rfl) (t_X9_draw E _ e122 isR_rfl) ?_
        refine mw_aload_n (x := (some a0)) dX9_drawAll_130 rfl ?_
        refine mw_aload_n (x := (some a0)) dX9_drawAll_131 rfl ?_
        obtain ⟨x125, e126, r154⟩ := ob r154
        refine ml_getQ dX9_drawAll_132 fl_RX9_132 rfl e126 ?_
        refine mw_aload_n (x := (some a0)) dX9_drawAll_135 rfl ?_
        obtain ⟨x127, e128, r154⟩ := ob r154
        refine ml_getQ dX9_drawAll_136 fl_RX9_156 rfl e128 ?_
        refine mw_iload_n (x := v2) dX9_drawAll_139 rfl ?_
        obtain ⟨x129, e130, r154⟩ := ob r154
        refine ml_iald dX9_drawAll_140 e130 ?_
        obtain ⟨x131, e132, r154⟩ := ob r154
        refine ml_iald dX9_drawAll_141 e132 ?_
        refine mw_iconst (v := 1) dX9_drawAll_142 (by decide) ?_
        refine mw_iadd dX9_drawAll_143 ?_
        refine mw_aload_n (x := (some a0)) dX9_drawAll_144 rfl ?_
        obtain ⟨x133, e134, r154⟩ := ob r154
        refine ml_getQ dX9_drawAll_145 fl_RX9_129 rfl e134 ?_
        refine mw_aload_n (x := (some a0)) dX9_drawAll_148 rfl ?_
        obtain ⟨x135, e136, r154⟩ := ob r154
        refine ml_getQ dX9_drawAll_149 fl_RX9_156 rfl e136 ?_
        refine mw_iload_n (x := v2) dX9_drawAll_152 rfl ?_
        obtain ⟨x137, e138, r154⟩ := ob r154
        refine ml_iald dX9_drawAll_153 e138 ?_
        obtain ⟨x139, e140, r154⟩ := ob r154
        refine ml_iald dX9_drawAll_154 e140 ?_
        refine mw_aload_n (x := (some a0)) dX9_drawAll_155 rfl ?_
        obtain ⟨x141, e142, r154⟩ := ob r154
        refine ml_getQ dX9_drawAll_156 fl_RX9_135 rfl e142 ?_
        refine mw_aload_n (x := (some a0)) dX9_drawAll_159 rfl ?_
        obtain ⟨x143, e144, r154⟩ := ob r154
        refine ml_getQ dX9_drawAll_160 fl_RX9_156 rfl e144 ?_
        refine mw_iload_n (x := v2) dX9_drawAll_163 rfl ?_
        obtain ⟨x145, e146, r154⟩ := ob r154
        refine ml_iald dX9_drawAll_164 e146 ?_
        obtain ⟨x147, e148, r154⟩ := ob r154
        refine ml_iald dX9_drawAll_165 e148 ?_
        refine mw_ineg dX9_drawAll_166 ?_
        refine mw_i2l dX9_drawAll_167 ?_
        obtain ⟨g151, e152, r154⟩ := ob r154
        obtain ⟨h149, e150, r154⟩ := ob r154
        refine ml_callV (ci := 8) (mc' := 0) (ms' := 0) [vi (x131 + (1 : Int32)), vi x139, vl ((-x147).toInt64)] dX9_drawAll_168 mk_X9_draw lk_RX9_386 im_X9_draw se_X9_draw (by decide) e152 rfl (Nat.le_of_ble_eq_true rfl) (Nat.le_of_ble_eq_true rfl) (t_X9_draw E _ e150 isR_rfl) ?_
        obtain rfl := y0 r154
        exact MW.sub (subL_s (subL_s (subL_s (subL_n (subL_n subL_nil))))) J162
      · rw [if_pos c40] at r154
        refine mw_goto (tgt := 171) dX9_drawAll_87 rfl ?_
        obtain rfl := y0 r154
        exact MW.sub (subL_s (subL_s (subL_s (subL_n (subL_n subL_nil))))) J162
set_option maxHeartbeats 4000000 in
theorem t_X9_drawAll (E : En) (d : Nat) {mc ms : Nat} {a0 : Nat} {v1 : Int32} {h h' : Hp} {K : Option Vv → Hp → Prop} (hf : f_X9_drawAll a0 v1 h = some h') (hk : K none h') : MC E m_X9_drawAll (d + 1) mc ms [vq (some a0), vi v1] h K := by
  unfold f_X9_drawAll at hf
  show MW E m_X9_drawAll (d + 1) mc ms 0 [some (vq (some a0)), some (vi v1), none, none, none] [] h K
  refine mw_iconst (v := 0) dX9_drawAll_0 (by decide) ?_
  refine mw_istore_n dX9_drawAll_1 (by decide) rfl ?_
  obtain ⟨h36, e158, hf⟩ := ob hf
  refine MW.sub (subL_s (subL_s (subL_s (subL_n (subL_n subL_nil))))) (tl_X9_drawAll_2 E d _ _ _ _ _ _ e158 ?_)
  refine mw_iconst (v := 0) dX9_drawAll_68 (by decide) ?_
  refine mw_istore_n dX9_drawAll_69 (by decide) rfl ?_
  obtain ⟨h155, e156, hf⟩ := ob hf
  refine MW.sub (subL_s (subL_s (subL_s (subL_n (subL_n subL_nil))))) (tl_X9_drawAll_70 E d _ _ _ _ _ _ e156 ?_)
  obtain rfl := y0 hf
  exact mw_return dX9_drawAll_177 rfl hk
def f_X9_canHold_L2 : Nat → Nat → Int32 → Int32 → Hp → Option ((Hp))
  | 0, _, _, _, _ => none
  | n + 1, a0, v1, v2, h =>
    if (104 : Int32) < v2 then
      some h
    else
      (getQ h (some a0) 8 48).bind fun x2 =>
      (wrJ h x2 v2 0).bind fun h4 =>
      f_X9_canHold_L2 n a0 v1 (v2 + 1) h4
def f_X9_canHold_L28 : Nat → Nat → Int32 → Int32 → Hp → Option ((Hp))
  | 0, _, _, _, _ => none
  | n + 1, a0, v1, v2, h =>
    if (105 : Int32) < v2 then
      some h
    else
      (getI h (some a0) 8 51).bind fun x10 =>
      if x10 = (0 : Int32) then
        some h
      else
        (putZ h (some a0) 8 51 0).bind fun h13 =>
        (rc h13 (some a0) 8).bind fun g17 =>
        (f_X9_drawAll g17 v1 h13).bind fun h15 =>
        f_X9_canHold_L28 n a0 v1 (v2 + 1) h15
def f_X9_canHold (a0 : Nat) (v1 : Int32) (h : Hp) : Option (Int32 × Hp) :=
  (f_X9_canHold_L2 fu a0 v1 0 h).bind fun h6 =>
  (putZ h6 (some a0) 8 51 1).bind fun h7 =>
  (f_X9_canHold_L28 fu a0 v1 0 h7).bind fun h19 =>
  (getI h19 (some a0) 8 51).bind fun x20 =>
  b1 ((if x20 = (0 : Int32) then
      some (1, h19)
    else
      some (0, h19) : Option (Int32 × Hp))) fun w23 h24 =>
  (zok w23).bind fun z26 =>
  some (w23, h24)
set_option maxHeartbeats 4000000 in
theorem tl_X9_canHold_2 (E : En) (d : Nat) {mc ms : Nat} {K : Option Vv → Hp → Prop} : ∀ (n : Nat) (a0 : Nat) (v1 : Int32) (v2 : Int32) (h : Hp) (hz : Hp), f_X9_canHold_L2 n a0 v1 v2 h = some hz → MW E m_X9_canHold (d + 2) mc ms 21 [some (vq (some a0)), some (vi v1), none] [] hz K → MW E m_X9_canHold (d + 2) mc ms 2 [some (vq (some a0)), some (vi v1), some (vi v2)] [] h K := by
  intro n
  induction n with
  | zero => intro a0 v1 v2 h hz hf; exact nomatch (show none = some _ from hf)
  | succ n ih =>
    intro a0 v1 v2 h hz hf hX21
    rw [f_X9_canHold_L2] at hf
    refine mw_iload_n (x := v2) dX9_canHold_2 rfl ?_
    refine mw_bipush (v := 104) dX9_canHold_3 (by decide) ?_
    refine mw_icmp_gt (tgt := 21) dX9_canHold_5 rfl (fun c1 => ?_) (fun c1 => ?_)
    · rw [if_pos c1] at hf
      obtain rfl := y0 hf
      exact MW.sub (subL_s (subL_s (subL_n subL_nil))) hX21
    · rw [if_neg c1] at hf
      refine mw_aload_n (x := (some a0)) dX9_canHold_8 rfl ?_
      obtain ⟨x2, e3, hf⟩ := ob hf
      refine ml_getQ dX9_canHold_9 fl_RX9_162 rfl e3 ?_
      refine mw_iload_n (x := v2) dX9_canHold_12 rfl ?_
      refine mw_lconst (v := 0) dX9_canHold_13 (by decide) ?_
      obtain ⟨h4, e5, hf⟩ := ob hf
      refine ml_last dX9_canHold_14 e5 ?_
      refine mw_iinc (x := v2) (v := v2 + 1) dX9_canHold_15 rfl rfl (by decide) rfl ?_
      refine mw_goto (tgt := 2) dX9_canHold_18 rfl ?_
      exact MW.sub (subL_s (subL_s (subL_s subL_nil))) (ih _ _ _ _ _ hf hX21)
set_option maxHeartbeats 4000000 in
theorem tl_X9_canHold_28 (E : En) (d : Nat) {mc ms : Nat} {K : Option Vv → Hp → Prop} : ∀ (n : Nat) (a0 : Nat) (v1 : Int32) (v2 : Int32) (h : Hp) (hz : Hp), f_X9_canHold_L28 n a0 v1 v2 h = some hz → MW E m_X9_canHold (d + 2) mc ms 57 [some (vq (some a0)), none, none] [] hz K → MW E m_X9_canHold (d + 2) mc ms 28 [some (vq (some a0)), some (vi v1), some (vi v2)] [] h K := by
  intro n
  induction n with
  | zero => intro a0 v1 v2 h hz hf; exact nomatch (show none = some _ from hf)
  | succ n ih =>
    intro a0 v1 v2 h hz hf hX57
    rw [f_X9_canHold_L28] at hf
    refine mw_iload_n (x := v2) dX9_canHold_28 rfl ?_
    refine mw_bipush (v := 105) dX9_canHold_29 (by decide) ?_
    refine mw_icmp_gt (tgt := 57) dX9_canHold_31 rfl (fun c9 => ?_) (fun c9 => ?_)
    · rw [if_pos c9] at hf
      obtain rfl := y0 hf
      exact MW.sub (subL_s (subL_n (subL_n subL_nil))) hX57
    · rw [if_neg c9] at hf
      refine mw_aload_n (x := (some a0)) dX9_canHold_34 rfl ?_
      obtain ⟨x10, e11, hf⟩ := ob hf
      refine ml_getI dX9_canHold_35 fl_RX9_377 rfl e11 ?_
      refine mw_if_eq (tgt := 57) dX9_canHold_38 rfl (fun c12 => ?_) (fun c12 => ?_)
      · rw [if_pos c12] at hf
        obtain rfl := y0 hf
        exact MW.sub (subL_s (subL_n (subL_n subL_nil))) hX57
      · rw [if_neg c12] at hf
        refine mw_aload_n (x := (some a0)) dX9_canHold_41 rfl ?_
        refine mw_iconst (v := 0) dX9_canHold_42 (by decide) ?_
        obtain ⟨h13, e14, hf⟩ := ob hf
        refine ml_putZ dX9_canHold_43 fl_RX9_377 (Or.inl rfl) rfl rfl e14 ?_
        refine mw_aload_n (x := (some a0)) dX9_canHold_46 rfl ?_
        refine mw_iload_n (x := v1) dX9_canHold_47 rfl ?_
        obtain ⟨g17, e18, hf⟩ := ob hf
        obtain ⟨h15, e16, hf⟩ := ob hf
        refine ml_callV (ci := 8) (mc' := 0) (ms' := 0) [vi v1] dX9_canHold_48 mk_X9_drawAll lk_RX9_390 im_X9_drawAll se_X9_drawAll (by decide) e18 rfl (Nat.le_of_ble_eq_true rfl) (Nat.le_of_ble_eq_true rfl) (t_X9_drawAll E _ e16 isR_rfl) ?_
        refine mw_iinc (x := v2) (v := v2 + 1) dX9_canHold_51 rfl rfl (by decide) rfl ?_
        refine mw_goto (tgt := 28) dX9_canHold_54 rfl ?_
        exact MW.sub (subL_s (subL_s (subL_s subL_nil))) (ih _ _ _ _ _ hf hX57)
set_option maxHeartbeats 4000000 in
theorem t_X9_canHold (E : En) (d : Nat) {mc ms : Nat} {a0 : Nat} {v1 : Int32} {h h' : Hp} {r : Int32} {K : Option Vv → Hp → Prop} (hf : f_X9_canHold a0 v1 h = some (r, h')) (hk : K (some (vi r)) h') : MC E m_X9_canHold (d + 2) mc ms [vq (some a0), vi v1] h K := by
  unfold f_X9_canHold at hf
  show MW E m_X9_canHold (d + 2) mc ms 0 [some (vq (some a0)), some (vi v1), none] [] h K
  refine mw_iconst (v := 0) dX9_canHold_0 (by decide) ?_
  refine mw_istore_n dX9_canHold_1 (by decide) rfl ?_
  obtain ⟨h6, e30, hf⟩ := ob hf
  refine MW.sub (subL_s (subL_s (subL_s subL_nil))) (tl_X9_canHold_2 E d _ _ _ _ _ _ e30 ?_)
  refine mw_aload_n (x := (some a0)) dX9_canHold_21 rfl ?_
  refine mw_iconst (v := 1) dX9_canHold_22 (by decide) ?_
  obtain ⟨h7, e8, hf⟩ := ob hf
  refine ml_putZ dX9_canHold_23 fl_RX9_377 (Or.inl rfl) rfl rfl e8 ?_
  refine mw_iconst (v := 0) dX9_canHold_26 (by decide) ?_
  refine mw_istore_n dX9_canHold_27 (by decide) rfl ?_
  obtain ⟨h19, e28, hf⟩ := ob hf
  refine MW.sub (subL_s (subL_s (subL_s subL_nil))) (tl_X9_canHold_28 E d _ _ _ _ _ _ e28 ?_)
  refine mw_aload_n (x := (some a0)) dX9_canHold_57 rfl ?_
  obtain ⟨x20, e21, hf⟩ := ob hf
  refine ml_getI dX9_canHold_58 fl_RX9_377 rfl e21 ?_
  obtain ⟨w23, h24, r25, hf⟩ := ob1 hf
  have J32 : MW E m_X9_canHold (d + 2) mc ms 69 [none, none, none] [vi w23] h24 K := by
    obtain ⟨z26, e27, hf⟩ := ob hf
    obtain ⟨rfl, rfl⟩ := y1 hf
    exact mw_ireturn dX9_canHold_69 rfl (zok_of e27) hk
  refine mw_if_ne (tgt := 68) dX9_canHold_61 rfl (fun c22 => ?_) (fun c22 => ?_)
  · rw [if_neg c22] at r25
    refine mw_iconst (v := 0) dX9_canHold_68 (by decide) ?_
    obtain ⟨rfl, rfl⟩ := y1 r25
    exact MW.sub (subL_n (subL_n (subL_n subL_nil))) J32
  · rw [if_pos c22] at r25
    refine mw_iconst (v := 1) dX9_canHold_64 (by decide) ?_
    refine mw_goto (tgt := 69) dX9_canHold_65 rfl ?_
    obtain ⟨rfl, rfl⟩ := y1 r25
    exact MW.sub (subL_n (subL_n (subL_n subL_nil))) J32
def f_X9_seekQuarrel_L17 : Nat → Nat → Int32 → Int32 → Hp → Option ((Int32 × Hp) ⊕ (Hp))
  | 0, _, _, _, _ => none
  | n + 1, a0, v1, v2, h =>
    (getI h (some a0) 8 49).bind fun x5 =>
    if ((1 : Int32) <<< (x5 &&& 31)) ≤ v2 then
      some (Sum.inr h)
    else
      b1 (f_X9_bitsOf v2 h) fun x10 h8 =>
      if x10 = v1 then
        (rc h8 (some a0) 8).bind fun g14 =>
        b1 (f_X9_canHold g14 v2 h8) fun x16 h12 =>
        if x16 = (0 : Int32) then
          f_X9_seekQuarrel_L17 n a0 v1 (v2 + 1) h12
        else
          some (Sum.inl (v2, h12))
      else
        f_X9_seekQuarrel_L17 n a0 v1 (v2 + 1) h8
def f_X9_seekQuarrel_L2 : Nat → Nat → Int32 → Hp → Option ((Int32 × Hp) ⊕ (Hp))
  | 0, _, _, _ => none
  | n + 1, a0, v1, h =>
    if (3 : Int32) < v1 then
      some (Sum.inr h)
    else
      (getI h (some a0) 8 49).bind fun x2 =>
      if x2 < v1 then
        some (Sum.inr h)
      else
        (f_X9_seekQuarrel_L17 fu a0 v1 0 h).bind (Sum.elim (c1 fun w18 h19 => some (Sum.inl (w18, h19))) (fun h20 => f_X9_seekQuarrel_L2 n a0 (v1 + 1) h20))
def f_X9_seekQuarrel (a0 : Nat) (h : Hp) : Option (Hp) :=
  (f_X9_seekQuarrel_L2 fu a0 0 h).bind (Sum.elim (c1 fun w23 h24 => (putI h24 (some a0) 8 50 w23).bind fun h25 =>
    some h25) (fun h27 => (putI h27 (some a0) 8 50 (-1)).bind fun h28 =>
    some h28))
set_option maxHeartbeats 4000000 in
theorem tl_X9_seekQuarrel_17 (E : En) (d : Nat) {mc ms : Nat} {K : Option Vv → Hp → Prop} : ∀ (n : Nat) (a0 : Nat) (v1 : Int32) (v2 : Int32) (h : Hp) (o : (Int32 × Hp) ⊕ (Hp)), f_X9_seekQuarrel_L17 n a0 v1 v2 h = some o → (∀ (u2 : Int32) (hz : Hp), o = Sum.inl (u2, hz) → MW E m_X9_seekQuarrel (d + 3) mc ms 46 [some (vq (some a0)), none, some (vi u2)] [] hz K) → (∀ (hz : Hp), o = Sum.inr hz → MW E m_X9_seekQuarrel (d + 3) mc ms 58 [some (vq (some a0)), some (vi v1), none] [] hz K) → MW E m_X9_seekQuarrel (d + 3) mc ms 17 [some (vq (some a0)), some (vi v1), some (vi v2)] [] h K := by
  intro n
  induction n with
  | zero => intro a0 v1 v2 h o hf; exact nomatch (show none = some _ from hf)
  | succ n ih =>
    intro a0 v1 v2 h o hf hX46 hX58
    rw [f_X9_seekQuarrel_L17] at hf
    refine mw_iload_n (x := v2) dX9_seekQuarrel_17 rfl ?_
    refine mw_iconst (v := 1) dX9_seekQuarrel_18 (by decide) ?_
    refine mw_aload_n (x := (some a0)) dX9_seekQuarrel_19 rfl ?_
    obtain ⟨x5, e6, hf⟩ := ob hf
    refine ml_getI dX9_seekQuarrel_20 fl_RX9_359 rfl e6 ?_
    refine mw_ishl dX9_seekQuarrel_23 ?_
    refine mw_icmp_ge (tgt := 58) dX9_seekQuarrel_24 rfl (fun c7 => ?_) (fun c7 => ?_)
    · rw [if_pos c7] at hf
      obtain rfl := y0 hf
      exact MW.sub (subL_s (subL_s (subL_n subL_nil))) (hX58 _ rfl)
    · rw [if_neg c7] at hf
      refine mw_iload_n (x := v2) dX9_seekQuarrel_27 rfl ?_
      obtain ⟨x10, h8, e9, hf⟩ := ob1 hf
      refine ml_callS (mc' := 0) (ms' := 0) [vi v2] dX9_seekQuarrel_28 mk_X9_bitsOf lk_RX9_397 st_X9_bitsOf rfl (Nat.le_of_ble_eq_true rfl) (Nat.le_of_ble_eq_true rfl) (t_X9_bitsOf E _ e9 isR_rfl) ?_
      refine mw_iload_n (x := v1) dX9_seekQuarrel_31 rfl ?_
      refine mw_icmp_ne (tgt := 52) dX9_seekQuarrel_32 rfl (fun c11 => ?_) (fun c11 => ?_)
      · rw [if_neg c11] at hf
        refine mw_iinc (x := v2) (v := v2 + 1) dX9_seekQuarrel_52 rfl rfl (by decide) rfl ?_
        refine mw_goto (tgt := 17) dX9_seekQuarrel_55 rfl ?_
        exact MW.sub (subL_s (subL_s (subL_s subL_nil))) (ih _ _ _ _ _ hf hX46 hX58)
      · rw [if_pos c11] at hf
        refine mw_aload_n (x := (some a0)) dX9_seekQuarrel_35 rfl ?_
        refine mw_iload_n (x := v2) dX9_seekQuarrel_36 rfl ?_
        obtain ⟨g14, e15, hf⟩ := ob hf
        obtain ⟨x16, h12, e13, hf⟩ := ob1 hf
        refine ml_callV (ci := 8) (mc' := 0) (ms' := 0) [vi v2] dX9_seekQuarrel_37 mk_X9_canHold lk_RX9_400 im_X9_canHold se_X9_canHold (by decide) e15 rfl (Nat.le_of_ble_eq_true rfl) (Nat.le_of_ble_eq_true rfl) (t_X9_canHold E _ e13 isR_rfl) ?_
        refine mw_if_ne (tgt := 46) dX9_seekQuarrel_40 rfl (fun c17 => ?_) (fun c17 => ?_)
        · rw [if_neg c17] at hf
          obtain rfl := y0 hf
          exact MW.sub (subL_s (subL_n (subL_s subL_nil))) (hX46 _ _ rfl)
        · rw [if_pos c17] at hf
          refine mw_goto (tgt := 52) dX9_seekQuarrel_43 rfl ?_
          refine mw_iinc (x := v2) (v := v2 + 1) dX9_seekQuarrel_52 rfl rfl (by decide) rfl ?_
          refine mw_goto (tgt := 17) dX9_seekQuarrel_55 rfl ?_
          exact MW.sub (subL_s (subL_s (subL_s subL_nil))) (ih _ _ _ _ _ hf hX46 hX58)
set_option maxHeartbeats 4000000 in
theorem tl_X9_seekQuarrel_2 (E : En) (d : Nat) {mc ms : Nat} {K : Option Vv → Hp → Prop} : ∀ (n : Nat) (a0 : Nat) (v1 : Int32) (h : Hp) (o : (Int32 × Hp) ⊕ (Hp)), f_X9_seekQuarrel_L2 n a0 v1 h = some o → (∀ (u2 : Int32) (hz : Hp), o = Sum.inl (u2, hz) → MW E m_X9_seekQuarrel (d + 3) mc ms 46 [some (vq (some a0)), none, some (vi u2)] [] hz K) → (∀ (hz : Hp), o = Sum.inr hz → MW E m_X9_seekQuarrel (d + 3) mc ms 64 [some (vq (some a0)), none, none] [] hz K) → MW E m_X9_seekQuarrel (d + 3) mc ms 2 [some (vq (some a0)), some (vi v1), none] [] h K := by
  intro n
  induction n with
  | zero => intro a0 v1 h o hf; exact nomatch (show none = some _ from hf)
  | succ n ih =>
    intro a0 v1 h o hf hX46 hX64
    rw [f_X9_seekQuarrel_L2] at hf
    refine mw_iload_n (x := v1) dX9_seekQuarrel_2 rfl ?_
    refine mw_iconst (v := 3) dX9_seekQuarrel_3 (by decide) ?_
    refine mw_icmp_gt (tgt := 64) dX9_seekQuarrel_4 rfl (fun c1 => ?_) (fun c1 => ?_)
    · rw [if_pos c1] at hf
      obtain rfl := y0 hf
      exact MW.sub (subL_s (subL_n (subL_n subL_nil))) (hX64 _ rfl)
    · rw [if_neg c1] at hf
      refine mw_iload_n (x := v1) dX9_seekQuarrel_7 rfl ?_
      refine mw_aload_n (x := (some a0)) dX9_seekQuarrel_8 rfl ?_
      obtain ⟨x2, e3, hf⟩ := ob hf
      refine ml_getI dX9_seekQuarrel_9 fl_RX9_359 rfl e3 ?_
      refine mw_icmp_gt (tgt := 64) dX9_seekQuarrel_12 rfl (fun c4 => ?_) (fun c4 => ?_)
      · rw [if_pos c4] at hf
        obtain rfl := y0 hf
        exact MW.sub (subL_s (subL_n (subL_n subL_nil))) (hX64 _ rfl)
      · rw [if_neg c4] at hf
        refine mw_iconst (v := 0) dX9_seekQuarrel_15 (by decide) ?_
        refine mw_istore_n dX9_seekQuarrel_16 (by decide) rfl ?_
        obtain ⟨o22, e21, hf⟩ := ob hf
        rcases o22 with ⟨w18, h19⟩ | h20
        · have HX : MW E m_X9_seekQuarrel (d + 3) mc ms 46 [some (vq (some a0)), none, some (vi w18)] [] h19 K := by
            obtain rfl := y0 hf
            exact MW.sub (subL_s (subL_n (subL_s subL_nil))) (hX46 _ _ rfl)
          exact MW.sub (subL_s (subL_s (subL_s subL_nil))) (tl_X9_seekQuarrel_17 E d _ _ _ _ _ _ e21 (fun _ _ q => by cases q; exact HX) (fun _ q => by cases q))
        · have HX : MW E m_X9_seekQuarrel (d + 3) mc ms 58 [some (vq (some a0)), some (vi v1), none] [] h20 K := by
            refine mw_iinc (x := v1) (v := v1 + 1) dX9_seekQuarrel_58 rfl rfl (by decide) rfl ?_
            refine mw_goto (tgt := 2) dX9_seekQuarrel_61 rfl ?_
            exact MW.sub (subL_s (subL_s (subL_n subL_nil))) (ih _ _ _ _ hf hX46 hX64)
          exact MW.sub (subL_s (subL_s (subL_s subL_nil))) (tl_X9_seekQuarrel_17 E d _ _ _ _ _ _ e21 (fun _ _ q => by cases q) (fun _ q => by cases q; exact HX))
set_option maxHeartbeats 4000000 in
theorem t_X9_seekQuarrel (E : En) (d : Nat) {mc ms : Nat} {a0 : Nat} {h h' : Hp} {K : Option Vv → Hp → Prop} (hf : f_X9_seekQuarrel a0 h = some h') (hk : K none h') : MC E m_X9_seekQuarrel (d + 3) mc ms [vq (some a0)] h K := by
  unfold f_X9_seekQuarrel at hf
  show MW E m_X9_seekQuarrel (d + 3) mc ms 0 [some (vq (some a0)), none, none] [] h K
  refine mw_iconst (v := 0) dX9_seekQuarrel_0 (by decide) ?_
  refine mw_istore_n dX9_seekQuarrel_1 (by decide) rfl ?_
  obtain ⟨o31, e30, hf⟩ := ob hf
  rcases o31 with ⟨w23, h24⟩ | h27
  · have HX : MW E m_X9_seekQuarrel (d + 3) mc ms 46 [some (vq (some a0)), none, some (vi w23)] [] h24 K := by
      refine mw_aload_n (x := (some a0)) dX9_seekQuarrel_46 rfl ?_
      refine mw_iload_n (x := w23) dX9_seekQuarrel_47 rfl ?_
      obtain ⟨h25, e26, hf⟩ := ob hf
      refine ml_putI dX9_seekQuarrel_48 fl_RX9_369 (Or.inl rfl) rfl rfl e26 ?_
      obtain rfl := y0 hf
      exact mw_return dX9_seekQuarrel_51 rfl hk
    exact MW.sub (subL_s (subL_s (subL_n subL_nil))) (tl_X9_seekQuarrel_2 E d _ _ _ _ _ e30 (fun _ _ q => by cases q; exact HX) (fun _ q => by cases q))
  · have HX : MW E m_X9_seekQuarrel (d + 3) mc ms 64 [some (vq (some a0)), none, none] [] h27 K := by
      refine mw_aload_n (x := (some a0)) dX9_seekQuarrel_64 rfl ?_
      refine mw_iconst (v := (-1)) dX9_seekQuarrel_65 (by decide) ?_
      obtain ⟨h28, e29, hf⟩ := ob hf
      refine ml_putI dX9_seekQuarrel_66 fl_RX9_369 (Or.inl rfl) rfl rfl e29 ?_
      obtain rfl := y0 hf
      exact mw_return dX9_seekQuarrel_69 rfl hk
    exact MW.sub (subL_s (subL_s (subL_n subL_nil))) (tl_X9_seekQuarrel_2 E d _ _ _ _ _ e30 (fun _ _ q => by cases q) (fun _ q => by cases q; exact HX))
def f_X9_most_L3 : Nat → Nat → Int32 → Int32 → Int32 → Int32 → Hp → Option ((Hp))
  | 0, _, _, _, _, _, _ => none
  | n + 1, a0, v1, v2, v3, v4, h =>
    if (104 : Int32) < v4 then
      some h
    else
      (getQ h (some a0) 8 48).bind fun x2 =>
      b1 ((if v4 = v1 then
          some (0, h)
        else
          some (1000000000, h) : Option (Int64 × Hp))) fun w5 h6 =>
      (wrJ h6 x2 v4 w5).bind fun h8 =>
      f_X9_most_L3 n a0 v1 v2 v3 (v4 + 1) h8
def f_X9_most_L41 : Nat → Nat → Int32 → Int32 → Hp → Option ((Hp))
  | 0, _, _, _, _ => none
  | n + 1, a0, v2, v3, h =>
    (getI h (some a0) 8 51).bind fun x13 =>
    if x13 = (0 : Int32) then
      some h
    else
      (putZ h (some a0) 8 51 0).bind fun h16 =>
      (rc h16 (some a0) 8).bind fun g20 =>
      (f_X9_drawAll g20 v3 h16).bind fun h18 =>
      f_X9_most_L41 n a0 v2 v3 h18
def f_X9_most (a0 : Nat) (v1 : Int32) (v2 : Int32) (v3 : Int32) (h : Hp) : Option (Int64 × Hp) :=
  (f_X9_most_L3 fu a0 v1 v2 v3 0 h).bind fun h10 =>
  (putZ h10 (some a0) 8 51 1).bind fun h11 =>
  (f_X9_most_L41 fu a0 v2 v3 h11).bind fun h22 =>
  (getQ h22 (some a0) 8 48).bind fun x23 =>
  (rdJ h22 x23 11 v2).bind fun x25 =>
  some (x25, h22)
set_option maxHeartbeats 4000000 in
theorem tl_X9_most_3 (E : En) (d : Nat) {mc ms : Nat} {K : Option Vv → Hp → Prop} : ∀ (n : Nat) (a0 : Nat) (v1 : Int32) (v2 : Int32) (v3 : Int32) (v4 : Int32) (h : Hp) (hz : Hp), f_X9_most_L3 n a0 v1 v2 v3 v4 h = some hz → MW E m_X9_most (d + 2) mc ms 36 [some (vq (some a0)), none, some (vi v2), some (vi v3), none] [] hz K → MW E m_X9_most (d + 2) mc ms 3 [some (vq (some a0)), some (vi v1), some (vi v2), some (vi v3), some (vi v4)] [] h K := by
  intro n
  induction n with
  | zero => intro a0 v1 v2 v3 v4 h hz hf; exact nomatch (show none = some _ from hf)
  | succ n ih =>
    intro a0 v1 v2 v3 v4 h hz hf hX36
    rw [f_X9_most_L3] at hf
    refine mw_iload (x := v4) dX9_most_3 rfl ?_
    refine mw_bipush (v := 104) dX9_most_5 (by decide) ?_
    refine mw_icmp_gt (tgt := 36) dX9_most_7 rfl (fun c1 => ?_) (fun c1 => ?_)
    · rw [if_pos c1] at hf
      obtain rfl := y0 hf
      exact MW.sub (subL_s (subL_n (subL_s (subL_s (subL_n subL_nil))))) hX36
    · rw [if_neg c1] at hf
      refine mw_aload_n (x := (some a0)) dX9_most_10 rfl ?_
      obtain ⟨x2, e3, hf⟩ := ob hf
      refine ml_getQ dX9_most_11 fl_RX9_162 rfl e3 ?_
      refine mw_iload (x := v4) dX9_most_14 rfl ?_
      refine mw_iload (x := v4) dX9_most_16 rfl ?_
      refine mw_iload_n (x := v1) dX9_most_18 rfl ?_
      obtain ⟨w5, h6, r7, hf⟩ := ob1 hf
      have J31 : MW E m_X9_most (d + 2) mc ms 29 [some (vq (some a0)), some (vi v1), some (vi v2), some (vi v3), some (vi v4)] [vl w5, vi v4, vq x2] h6 K := by
        obtain ⟨h8, e9, hf⟩ := ob hf
        refine ml_last dX9_most_29 e9 ?_
        refine mw_iinc (x := v4) (v := v4 + 1) dX9_most_30 rfl rfl (by decide) rfl ?_
        refine mw_goto (tgt := 3) dX9_most_33 rfl ?_
        exact MW.sub (subL_s (subL_s (subL_s (subL_s (subL_s subL_nil))))) (ih _ _ _ _ _ _ _ hf hX36)
      refine mw_icmp_ne (tgt := 26) dX9_most_19 rfl (fun c4 => ?_) (fun c4 => ?_)
      · rw [if_neg c4] at r7
        refine mw_ldc2 dX9_most_26 kc_RX9_375 ?_
        obtain ⟨rfl, rfl⟩ := y1 r7
        exact MW.sub (subL_s (subL_s (subL_s (subL_s (subL_s subL_nil))))) J31
      · rw [if_pos c4] at r7
        refine mw_lconst (v := 0) dX9_most_22 (by decide) ?_
        refine mw_goto (tgt := 29) dX9_most_23 rfl ?_
        obtain ⟨rfl, rfl⟩ := y1 r7
        exact MW.sub (subL_s (subL_s (subL_s (subL_s (subL_s subL_nil))))) J31
set_option maxHeartbeats 4000000 in
theorem tl_X9_most_41 (E : En) (d : Nat) {mc ms : Nat} {K : Option Vv → Hp → Prop} : ∀ (n : Nat) (a0 : Nat) (v2 : Int32) (v3 : Int32) (h : Hp) (hz : Hp), f_X9_most_L41 n a0 v2 v3 h = some hz → MW E m_X9_most (d + 2) mc ms 61 [some (vq (some a0)), none, some (vi v2), none, none] [] hz K → MW E m_X9_most (d + 2) mc ms 41 [some (vq (some a0)), none, some (vi v2), some (vi v3), none] [] h K := by
  intro n
  induction n with
  | zero => intro a0 v2 v3 h hz hf; exact nomatch (show none = some _ from hf)
  | succ n ih =>
    intro a0 v2 v3 h hz hf hX61
    rw [f_X9_most_L41] at hf
    refine mw_aload_n (x := (some a0)) dX9_most_41 rfl ?_
    obtain ⟨x13, e14, hf⟩ := ob hf
    refine ml_getI dX9_most_42 fl_RX9_377 rfl e14 ?_
    refine mw_if_eq (tgt := 61) dX9_most_45 rfl (fun c15 => ?_) (fun c15 => ?_)
    · rw [if_pos c15] at hf
      obtain rfl := y0 hf
      exact MW.sub (subL_s (subL_n (subL_s (subL_n (subL_n subL_nil))))) hX61
    · rw [if_neg c15] at hf
      refine mw_aload_n (x := (some a0)) dX9_most_48 rfl ?_
      refine mw_iconst (v := 0) dX9_most_49 (by decide) ?_
      obtain ⟨h16, e17, hf⟩ := ob hf
      refine ml_putZ dX9_most_50 fl_RX9_377 (Or.inl rfl) rfl rfl e17 ?_
      refine mw_aload_n (x := (some a0)) dX9_most_53 rfl ?_
      refine mw_iload_n (x := v3) dX9_most_54 rfl ?_
      obtain ⟨g20, e21, hf⟩ := ob hf
      obtain ⟨h18, e19, hf⟩ := ob hf
      refine ml_callV (ci := 8) (mc' := 0) (ms' := 0) [vi v3] dX9_most_55 mk_X9_drawAll lk_RX9_390 im_X9_drawAll se_X9_drawAll (by decide) e21 rfl (Nat.le_of_ble_eq_true rfl) (Nat.le_of_ble_eq_true rfl) (t_X9_drawAll E _ e19 isR_rfl) ?_
      refine mw_goto (tgt := 41) dX9_most_58 rfl ?_
      exact MW.sub (subL_s (subL_n (subL_s (subL_s (subL_n subL_nil))))) (ih _ _ _ _ _ hf hX61)
set_option maxHeartbeats 4000000 in
theorem t_X9_most (E : En) (d : Nat) {mc ms : Nat} {a0 : Nat} {v1 : Int32} {v2 : Int32} {v3 : Int32} {h h' : Hp} {r : Int64} {K : Option Vv → Hp → Prop} (hf : f_X9_most a0 v1 v2 v3 h = some (r, h')) (hk : K (some (vl r)) h') : MC E m_X9_most (d + 2) mc ms [vq (some a0), vi v1, vi v2, vi v3] h K := by
  unfold f_X9_most at hf
  show MW E m_X9_most (d + 2) mc ms 0 [some (vq (some a0)), some (vi v1), some (vi v2), some (vi v3), none] [] h K
  refine mw_iconst (v := 0) dX9_most_0 (by decide) ?_
  refine mw_istore dX9_most_1 (by decide) rfl ?_
  obtain ⟨h10, e29, hf⟩ := ob hf
  refine MW.sub (subL_s (subL_s (subL_s (subL_s (subL_s subL_nil))))) (tl_X9_most_3 E d _ _ _ _ _ _ _ _ e29 ?_)
  refine mw_aload_n (x := (some a0)) dX9_most_36 rfl ?_
  refine mw_iconst (v := 1) dX9_most_37 (by decide) ?_
  obtain ⟨h11, e12, hf⟩ := ob hf
  refine ml_putZ dX9_most_38 fl_RX9_377 (Or.inl rfl) rfl rfl e12 ?_
  obtain ⟨h22, e27, hf⟩ := ob hf
  refine MW.sub (subL_s (subL_n (subL_s (subL_s (subL_n subL_nil))))) (tl_X9_most_41 E d _ _ _ _ _ _ e27 ?_)
  refine mw_aload_n (x := (some a0)) dX9_most_61 rfl ?_
  obtain ⟨x23, e24, hf⟩ := ob hf
  refine ml_getQ dX9_most_62 fl_RX9_162 rfl e24 ?_
  refine mw_iload_n (x := v2) dX9_most_65 rfl ?_
  obtain ⟨x25, e26, hf⟩ := ob hf
  refine ml_lald dX9_most_66 e26 ?_
  obtain ⟨rfl, rfl⟩ := y1 hf
  exact mw_lreturn dX9_most_67 rfl hk
def f_X9_spread (a0 : Nat) (v1 : Int32) (v2 : Int32) (h : Hp) : Option (Hp) :=
  (getQ h (some a0) 8 45).bind fun x1 =>
  (rc h (some a0) 8).bind fun g5 =>
  b1 (f_X9_most g5 v1 (v1 + (1 : Int32)) v2 h) fun x7 h3 =>
  (wrI h3 x1 v1 (x7.toInt32)).bind fun h8 =>
  (getQ h8 (some a0) 8 44).bind fun x10 =>
  (rc h8 (some a0) 8).bind fun g14 =>
  b1 (f_X9_most g14 (v1 + (1 : Int32)) v1 v2 h8) fun x16 h12 =>
  (wrI h12 x10 v1 ((-x16).toInt32)).bind fun h17 =>
  some h17
set_option maxHeartbeats 4000000 in
theorem t_X9_spread (E : En) (d : Nat) {mc ms : Nat} {a0 : Nat} {v1 : Int32} {v2 : Int32} {h h' : Hp} {K : Option Vv → Hp → Prop} (hf : f_X9_spread a0 v1 v2 h = some h') (hk : K none h') : MC E m_X9_spread (d + 3) mc ms [vq (some a0), vi v1, vi v2] h K := by
  unfold f_X9_spread at hf
  show MW E m_X9_spread (d + 3) mc ms 0 [some (vq (some a0)), some (vi v1), some (vi v2)] [] h K
  refine mw_aload_n (x := (some a0)) dX9_spread_0 rfl ?_
  obtain ⟨x1, e2, hf⟩ := ob hf
  refine ml_getQ dX9_spread_1 fl_RX9_153 rfl e2 ?_
  refine mw_iload_n (x := v1) dX9_spread_4 rfl ?_
  refine mw_aload_n (x := (some a0)) dX9_spread_5 rfl ?_
  refine mw_iload_n (x := v1) dX9_spread_6 rfl ?_
  refine mw_iload_n (x := v1) dX9_spread_7 rfl ?_
  refine mw_iconst (v := 1) dX9_spread_8 (by decide) ?_
  refine mw_iadd dX9_spread_9 ?_
  refine mw_iload_n (x := v2) dX9_spread_10 rfl ?_
  obtain ⟨g5, e6, hf⟩ := ob hf
  obtain ⟨x7, h3, e4, hf⟩ := ob1 hf
  refine ml_callV (ci := 8) (mc' := 0) (ms' := 0) [vi v1, vi (v1 + (1 : Int32)), vi v2] dX9_spread_11 mk_X9_most lk_RX9_393 im_X9_most se_X9_most (by decide) e6 rfl (Nat.le_of_ble_eq_true rfl) (Nat.le_of_ble_eq_true rfl) (t_X9_most E _ e4 isR_rfl) ?_
  refine mw_l2i dX9_spread_14 ?_
  obtain ⟨h8, e9, hf⟩ := ob hf
  refine ml_iast dX9_spread_15 e9 ?_
  refine mw_aload_n (x := (some a0)) dX9_spread_16 rfl ?_
  obtain ⟨x10, e11, hf⟩ := ob hf
  refine ml_getQ dX9_spread_17 fl_RX9_150 rfl e11 ?_
  refine mw_iload_n (x := v1) dX9_spread_20 rfl ?_
  refine mw_aload_n (x := (some a0)) dX9_spread_21 rfl ?_
  refine mw_iload_n (x := v1) dX9_spread_22 rfl ?_
  refine mw_iconst (v := 1) dX9_spread_23 (by decide) ?_
  refine mw_iadd dX9_spread_24 ?_
  refine mw_iload_n (x := v1) dX9_spread_25 rfl ?_
  refine mw_iload_n (x := v2) dX9_spread_26 rfl ?_
  obtain ⟨g14, e15, hf⟩ := ob hf
  obtain ⟨x16, h12, e13, hf⟩ := ob1 hf
  refine ml_callV (ci := 8) (mc' := 0) (ms' := 0) [vi (v1 + (1 : Int32)), vi v1, vi v2] dX9_spread_27 mk_X9_most lk_RX9_393 im_X9_most se_X9_most (by decide) e15 rfl (Nat.le_of_ble_eq_true rfl) (Nat.le_of_ble_eq_true rfl) (t_X9_most E _ e13 isR_rfl) ?_
  refine mw_lneg dX9_spread_30 ?_
  refine mw_l2i dX9_spread_31 ?_
  obtain ⟨h17, e18, hf⟩ := ob hf
  refine ml_iast dX9_spread_32 e18 ?_
  obtain rfl := y0 hf
  exact mw_return dX9_spread_33 rfl hk
def f_X9_know_L2 : Nat → Nat → Int32 → Int32 → Int32 → Hp → Option ((Hp))
  | 0, _, _, _, _, _ => none
  | n + 1, a0, v1, v2, v3, h =>
    if (624 : Int32) ≤ v3 then
      some h
    else
      (getQ h (some a0) 8 43).bind fun x2 =>
      (wrI h x2 v3 0).bind fun h4 =>
      f_X9_know_L2 n a0 v1 v2 (v3 + 1) h4
def f_X9_know_L24 : Nat → Nat → Int32 → Int32 → Int32 → Hp → Option ((Hp))
  | 0, _, _, _, _, _ => none
  | n + 1, a0, v1, v2, v3, h =>
    if (104 : Int32) ≤ v3 then
      some h
    else
      (getQ h (some a0) 8 47).bind fun x8 =>
      (wrZ h x8 v3 0).bind fun h10 =>
      f_X9_know_L24 n a0 v1 v2 (v3 + 1) h10
def f_X9_know_L50 : Nat → Nat → Int32 → Int32 → Int32 → Hp → Option ((Hp))
  | 0, _, _, _, _, _ => none
  | n + 1, a0, v1, v2, v3, h =>
    (getI h (some a0) 8 41).bind fun x15 =>
    if x15 ≤ v3 then
      some h
    else
      (rc h (some a0) 8).bind fun g20 =>
      b1 (f_X9_counts g20 v3 (0 : Int32) v1 v2 h) fun x22 h18 =>
      Option.bind ((if x22 = (0 : Int32) then
          some h18
        else
          (getQ h18 (some a0) 8 43).bind fun x40 =>
          (getQ h18 (some a0) 8 34).bind fun x42 =>
          (rdI h18 x42 10 v3).bind fun x44 =>
          (getQ h18 (some a0) 8 35).bind fun x46 =>
          (rdI h18 x46 10 v3).bind fun x48 =>
          (getQ h18 (some a0) 8 36).bind fun x50 =>
          (rdI h18 x50 10 v3).bind fun x52 =>
          (wrI h18 x40 (((6 : Int32) * x44) + x48) x52).bind fun h54 =>
          some h54 : Option (Hp))) fun h56 =>
      (rc h56 (some a0) 8).bind fun g60 =>
      b1 (f_X9_counts g60 v3 (1 : Int32) v1 v2 h56) fun x62 h58 =>
      Option.bind ((if x62 = (0 : Int32) then
          some h58
        else
          (getQ h58 (some a0) 8 47).bind fun x72 =>
          (getQ h58 (some a0) 8 34).bind fun x74 =>
          (rdI h58 x74 10 v3).bind fun x76 =>
          (wrZ h58 x72 x76 1).bind fun h78 =>
          some h78 : Option (Hp))) fun h80 =>
      (rc h80 (some a0) 8).bind fun g84 =>
      b1 (f_X9_counts g84 v3 (2 : Int32) v1 v2 h80) fun x86 h82 =>
      Option.bind ((if x86 = (0 : Int32) then
          some h82
        else
          (getQ h82 (some a0) 8 46).bind fun x98 =>
          (getI h82 (some a0) 8 49).bind fun x100 =>
          (wrI h82 x98 x100 v3).bind fun h102 =>
          (getI h102 (some a0) 8 49).bind fun x104 =>
          (putI h102 (some a0) 8 49 (x104 + (1 : Int32))).bind fun h106 =>
          some h106 : Option (Hp))) fun h108 =>
      f_X9_know_L50 n a0 v1 v2 (v3 + 1) h108
def f_X9_know_L170 : Nat → Nat → Int32 → Int32 → Hp → Option ((Hp))
  | 0, _, _, _, _ => none
  | n + 1, a0, v3, v4, h =>
    if (6 : Int32) ≤ v4 then
      some h
    else
      (getQ h (some a0) 8 47).bind fun x113 =>
      (rdI h x113 12 v3).bind fun x115 =>
      if x115 = (0 : Int32) then
        some h
      else
        (getQ h (some a0) 8 43).bind fun x118 =>
        (wrI h x118 (((6 : Int32) * v3) + v4) 0).bind fun h120 =>
        f_X9_know_L170 n a0 v3 (v4 + 1) h120
def f_X9_know_L161 : Nat → Nat → Int32 → Hp → Option ((Hp))
  | 0, _, _, _ => none
  | n + 1, a0, v3, h =>
    if (104 : Int32) ≤ v3 then
      some h
    else
      (f_X9_know_L170 fu a0 v3 0 h).bind fun h122 =>
      f_X9_know_L161 n a0 (v3 + 1) h122
def f_X9_know_L241 : Nat → Nat → Int32 → Int32 → Hp → Option ((Hp))
  | 0, _, _, _, _ => none
  | n + 1, a0, v3, v4, h =>
    if (104 : Int32) ≤ v4 then
      some h
    else
      (getQ h (some a0) 8 44).bind fun x145 =>
      (getQ h (some a0) 8 43).bind fun x147 =>
      (rdI h x147 10 ((6 : Int32) * v4)).bind fun x149 =>
      (wrI h x145 v4 x149).bind fun h151 =>
      (getQ h151 (some a0) 8 45).bind fun x153 =>
      (getQ h151 (some a0) 8 43).bind fun x155 =>
      (rdI h151 x155 10 ((6 : Int32) * v4)).bind fun x157 =>
      (wrI h151 x153 v4 x157).bind fun h159 =>
      (getQ h159 (some a0) 8 47).bind fun x161 =>
      (rdI h159 x161 12 v4).bind fun x163 =>
      Option.bind ((if x163 = (0 : Int32) then
          some h159
        else
          (rc h159 (some a0) 8).bind fun g172 =>
          (f_X9_spread g172 v4 v3 h159).bind fun h170 =>
          some h170 : Option (Hp))) fun h174 =>
      f_X9_know_L241 n a0 v3 (v4 + 1) h174
def f_X9_know (a0 : Nat) (v1 : Int32) (v2 : Int32) (h : Hp) : Option (Hp) :=
  (f_X9_know_L2 fu a0 v1 v2 0 h).bind fun h6 =>
  (f_X9_know_L24 fu a0 v1 v2 0 h6).bind fun h12 =>
  (putI h12 (some a0) 8 49 0).bind fun h13 =>
  (f_X9_know_L50 fu a0 v1 v2 0 h13).bind fun h110 =>
  (f_X9_know_L161 fu a0 0 h110).bind fun h125 =>
  (rc h125 (some a0) 8).bind fun g128 =>
  (f_X9_seekQuarrel g128 h125).bind fun h126 =>
  (getI h126 (some a0) 8 50).bind fun x130 =>
  b1 ((if (0 : Int32) ≤ x130 then
      (getI h126 (some a0) 8 50).bind fun x137 =>
      some (x137, h126)
    else
      (getI h126 (some a0) 8 49).bind fun x139 =>
      some ((((1 : Int32) <<< (x139 &&& 31)) - (1 : Int32)), h126) : Option (Int32 × Hp))) fun w141 h142 =>
  (f_X9_know_L241 fu a0 w141 0 h142).bind fun h176 =>
  some h176
set_option maxHeartbeats 4000000 in
theorem tl_X9_know_2 (E : En) (d : Nat) {mc ms : Nat} {K : Option Vv → Hp → Prop} : ∀ (n : Nat) (a0 : Nat) (v1 : Int32) (v2 : Int32) (v3 : Int32) (h : Hp) (hz : Hp), f_X9_know_L2 n a0 v1 v2 v3 h = some hz → MW E m_X9_know (d + 4) mc ms 22 [some (vq (some a0)), some (vi v1), some (vi v2), none, none] [] hz K → MW E m_X9_know (d + 4) mc ms 2 [some (vq (some a0)), some (vi v1), some (vi v2), some (vi v3), none] [] h K := by
  intro n
  induction n with
  | zero => intro a0 v1 v2 v3 h hz hf; exact nomatch (show none = some _ from hf)
  | succ n ih =>
    intro a0 v1 v2 v3 h hz hf hX22
    rw [f_X9_know_L2] at hf
    refine mw_iload_n (x := v3) dX9_know_2 rfl ?_
    refine mw_sipush (v := 624) dX9_know_3 (by decide) ?_
    refine mw_icmp_ge (tgt := 22) dX9_know_6 rfl (fun c1 => ?_) (fun c1 => ?_)
    · rw [if_pos c1] at hf
      obtain rfl := y0 hf
      exact MW.sub (subL_s (subL_s (subL_s (subL_n (subL_n subL_nil))))) hX22
    · rw [if_neg c1] at hf
      refine mw_aload_n (x := (some a0)) dX9_know_9 rfl ?_
      obtain ⟨x2, e3, hf⟩ := ob hf
      refine ml_getQ dX9_know_10 fl_RX9_147 rfl e3 ?_
      refine mw_iload_n (x := v3) dX9_know_13 rfl ?_
      refine mw_iconst (v := 0) dX9_know_14 (by decide) ?_
      obtain ⟨h4, e5, hf⟩ := ob hf
      refine ml_iast dX9_know_15 e5 ?_
      refine mw_iinc (x := v3) (v := v3 + 1) dX9_know_16 rfl rfl (by decide) rfl ?_
      refine mw_goto (tgt := 2) dX9_know_19 rfl ?_
      exact MW.sub (subL_s (subL_s (subL_s (subL_s (subL_n subL_nil))))) (ih _ _ _ _ _ _ hf hX22)
set_option maxHeartbeats 4000000 in
theorem tl_X9_know_24 (E : En) (d : Nat) {mc ms : Nat} {K : Option Vv → Hp → Prop} : ∀ (n : Nat) (a0 : Nat) (v1 : Int32) (v2 : Int32) (v3 : Int32) (h : Hp) (hz : Hp), f_X9_know_L24 n a0 v1 v2 v3 h = some hz → MW E m_X9_know (d + 4) mc ms 43 [some (vq (some a0)), some (vi v1), some (vi v2), none, none] [] hz K → MW E m_X9_know (d + 4) mc ms 24 [some (vq (some a0)), some (vi v1), some (vi v2), some (vi v3), none] [] h K := by
  intro n
  induction n with
  | zero => intro a0 v1 v2 v3 h hz hf; exact nomatch (show none = some _ from hf)
  | succ n ih =>
    intro a0 v1 v2 v3 h hz hf hX43
    rw [f_X9_know_L24] at hf
    refine mw_iload_n (x := v3) dX9_know_24 rfl ?_
    refine mw_bipush (v := 104) dX9_know_25 (by decide) ?_
    refine mw_icmp_ge (tgt := 43) dX9_know_27 rfl (fun c7 => ?_) (fun c7 => ?_)
    · rw [if_pos c7] at hf
      obtain rfl := y0 hf
      exact MW.sub (subL_s (subL_s (subL_s (subL_n (subL_n subL_nil))))) hX43
    · rw [if_neg c7] at hf
      refine mw_aload_n (x := (some a0)) dX9_know_30 rfl ?_
      obtain ⟨x8, e9, hf⟩ := ob hf
      refine ml_getQ dX9_know_31 fl_RX9_159 rfl e9 ?_
      refine mw_iload_n (x := v3) dX9_know_34 rfl ?_
      refine mw_iconst (v := 0) dX9_know_35 (by decide) ?_
      obtain ⟨h10, e11, hf⟩ := ob hf
      refine ml_zast dX9_know_36 e11 ?_
      refine mw_iinc (x := v3) (v := v3 + 1) dX9_know_37 rfl rfl (by decide) rfl ?_
      refine mw_goto (tgt := 24) dX9_know_40 rfl ?_
      exact MW.sub (subL_s (subL_s (subL_s (subL_s (subL_n subL_nil))))) (ih _ _ _ _ _ _ hf hX43)
set_option maxHeartbeats 4000000 in
theorem tl_X9_know_50 (E : En) (d : Nat) {mc ms : Nat} {K : Option Vv → Hp → Prop} : ∀ (n : Nat) (a0 : Nat) (v1 : Int32) (v2 : Int32) (v3 : Int32) (h : Hp) (hz : Hp), f_X9_know_L50 n a0 v1 v2 v3 h = some hz → MW E m_X9_know (d + 4) mc ms 159 [some (vq (some a0)), none, none, none, none] [] hz K → MW E m_X9_know (d + 4) mc ms 50 [some (vq (some a0)), some (vi v1), some (vi v2), some (vi v3), none] [] h K := by
  intro n
  induction n with
  | zero => intro a0 v1 v2 v3 h hz hf; exact nomatch (show none = some _ from hf)
  | succ n ih =>
    intro a0 v1 v2 v3 h hz hf hX159
    rw [f_X9_know_L50] at hf
    refine mw_iload_n (x := v3) dX9_know_50 rfl ?_
    refine mw_aload_n (x := (some a0)) dX9_know_51 rfl ?_
    obtain ⟨x15, e16, hf⟩ := ob hf
    refine ml_getI dX9_know_52 fl_RX9_340 rfl e16 ?_
    refine mw_icmp_ge (tgt := 159) dX9_know_55 rfl (fun c17 => ?_) (fun c17 => ?_)
    · rw [if_pos c17] at hf
      obtain rfl := y0 hf
      exact MW.sub (subL_s (subL_n (subL_n (subL_n (subL_n subL_nil))))) hX159
    · rw [if_neg c17] at hf
      refine mw_aload_n (x := (some a0)) dX9_know_58 rfl ?_
      refine mw_iload_n (x := v3) dX9_know_59 rfl ?_
      refine mw_iconst (v := 0) dX9_know_60 (by decide) ?_
      refine mw_iload_n (x := v1) dX9_know_61 rfl ?_
      refine mw_iload_n (x := v2) dX9_know_62 rfl ?_
      obtain ⟨g20, e21, hf⟩ := ob hf
      obtain ⟨x22, h18, e19, hf⟩ := ob1 hf
      refine ml_callV (ci := 8) (mc' := 0) (ms' := 0) [vi v3, vi (0 : Int32), vi v1, vi v2] dX9_know_63 mk_X9_counts lk_RX9_362 im_X9_counts se_X9_counts (by decide) e21 rfl (Nat.le_of_ble_eq_true rfl) (Nat.le_of_ble_eq_true rfl) (t_X9_counts E _ e19 isR_rfl) ?_
      obtain ⟨h56, r57, hf⟩ := ob hf
      have J187 : MW E m_X9_know (d + 4) mc ms 96 [some (vq (some a0)), some (vi v1), some (vi v2), some (vi v3), none] [] h56 K := by
        refine mw_aload_n (x := (some a0)) dX9_know_96 rfl ?_
        refine mw_iload_n (x := v3) dX9_know_97 rfl ?_
        refine mw_iconst (v := 1) dX9_know_98 (by decide) ?_
        refine mw_iload_n (x := v1) dX9_know_99 rfl ?_
        refine mw_iload_n (x := v2) dX9_know_100 rfl ?_
        obtain ⟨g60, e61, hf⟩ := ob hf
        obtain ⟨x62, h58, e59, hf⟩ := ob1 hf
        refine ml_callV (ci := 8) (mc' := 0) (ms' := 0) [vi v3, vi (1 : Int32), vi v1, vi v2] dX9_know_101 mk_X9_counts lk_RX9_362 im_X9_counts se_X9_counts (by decide) e61 rfl (Nat.le_of_ble_eq_true rfl) (Nat.le_of_ble_eq_true rfl) (t_X9_counts E _ e59 isR_rfl) ?_
        obtain ⟨h80, r81, hf⟩ := ob hf
        have J188 : MW E m_X9_know (d + 4) mc ms 119 [some (vq (some a0)), some (vi v1), some (vi v2), some (vi v3), none] [] h80 K := by
          refine mw_aload_n (x := (some a0)) dX9_know_119 rfl ?_
          refine mw_iload_n (x := v3) dX9_know_120 rfl ?_
          refine mw_iconst (v := 2) dX9_know_121 (by decide) ?_
          refine mw_iload_n (x := v1) dX9_know_122 rfl ?_
          refine mw_iload_n (x := v2) dX9_know_123 rfl ?_
          obtain ⟨g84, e85, hf⟩ := ob hf
          obtain ⟨x86, h82, e83, hf⟩ := ob1 hf
          refine ml_callV (ci := 8) (mc' := 0) (ms' := 0) [vi v3, vi (2 : Int32), vi v1, vi v2] dX9_know_124 mk_X9_counts lk_RX9_362 im_X9_counts se_X9_counts (by decide) e85 rfl (Nat.le_of_ble_eq_true rfl) (Nat.le_of_ble_eq_true rfl) (t_X9_counts E _ e83 isR_rfl) ?_
          obtain ⟨h108, r109, hf⟩ := ob hf
          have J189 : MW E m_X9_know (d + 4) mc ms 153 [some (vq (some a0)), some (vi v1), some (vi v2), some (vi v3), none] [] h108 K := by
            refine mw_iinc (x := v3) (v := v3 + 1) dX9_know_153 rfl rfl (by decide) rfl ?_
            refine mw_goto (tgt := 50) dX9_know_156 rfl ?_
            exact MW.sub (subL_s (subL_s (subL_s (subL_s (subL_n subL_nil))))) (ih _ _ _ _ _ _ hf hX159)
          refine mw_if_ne (tgt := 133) dX9_know_127 rfl (fun c87 => ?_) (fun c87 => ?_)
          · rw [if_neg c87] at r109
            refine mw_aload_n (x := (some a0)) dX9_know_133 rfl ?_
            obtain ⟨x98, e99, r109⟩ := ob r109
            refine ml_getQ dX9_know_134 fl_RX9_156 rfl e99 ?_
            refine mw_aload_n (x := (some a0)) dX9_know_137 rfl ?_
            obtain ⟨x100, e101, r109⟩ := ob r109
            refine ml_getI dX9_know_138 fl_RX9_359 rfl e101 ?_
            refine mw_iload_n (x := v3) dX9_know_141 rfl ?_
            obtain ⟨h102, e103, r109⟩ := ob r109
            refine ml_iast dX9_know_142 e103 ?_
            refine mw_aload_n (x := (some a0)) dX9_know_143 rfl ?_
            refine mw_dupq dX9_know_144 ?_
            obtain ⟨x104, e105, r109⟩ := ob r109
            refine ml_getI dX9_know_145 fl_RX9_359 rfl e105 ?_
            refine mw_iconst (v := 1) dX9_know_148 (by decide) ?_
            refine mw_iadd dX9_know_149 ?_
            obtain ⟨h106, e107, r109⟩ := ob r109
            refine ml_putI dX9_know_150 fl_RX9_359 (Or.inl rfl) rfl rfl e107 ?_
            obtain rfl := y0 r109
            exact MW.sub (subL_s (subL_s (subL_s (subL_s (subL_n subL_nil))))) J189
          · rw [if_pos c87] at r109
            refine mw_goto (tgt := 153) dX9_know_130 rfl ?_
            obtain rfl := y0 r109
            exact MW.sub (subL_s (subL_s (subL_s (subL_s (subL_n subL_nil))))) J189
        refine mw_if_eq (tgt := 119) dX9_know_104 rfl (fun c63 => ?_) (fun c63 => ?_)
        · rw [if_pos c63] at r81
          obtain rfl := y0 r81
          exact MW.sub (subL_s (subL_s (subL_s (subL_s (subL_n subL_nil))))) J188
        · rw [if_neg c63] at r81
          refine mw_aload_n (x := (some a0)) dX9_know_107 rfl ?_
          obtain ⟨x72, e73, r81⟩ := ob r81
          refine ml_getQ dX9_know_108 fl_RX9_159 rfl e73 ?_
          refine mw_aload_n (x := (some a0)) dX9_know_111 rfl ?_
          obtain ⟨x74, e75, r81⟩ := ob r81
          refine ml_getQ dX9_know_112 fl_RX9_129 rfl e75 ?_
          refine mw_iload_n (x := v3) dX9_know_115 rfl ?_
          obtain ⟨x76, e77, r81⟩ := ob r81
          refine ml_iald dX9_know_116 e77 ?_
          refine mw_iconst (v := 1) dX9_know_117 (by decide) ?_
          obtain ⟨h78, e79, r81⟩ := ob r81
          refine ml_zast dX9_know_118 e79 ?_
          obtain rfl := y0 r81
          exact MW.sub (subL_s (subL_s (subL_s (subL_s (subL_n subL_nil))))) J188
      refine mw_if_eq (tgt := 96) dX9_know_66 rfl (fun c23 => ?_) (fun c23 => ?_)
      · rw [if_pos c23] at r57
        obtain rfl := y0 r57
        exact MW.sub (subL_s (subL_s (subL_s (subL_s (subL_n subL_nil))))) J187
      · rw [if_neg c23] at r57
        refine mw_aload_n (x := (some a0)) dX9_know_69 rfl ?_
        obtain ⟨x40, e41, r57⟩ := ob r57
        refine ml_getQ dX9_know_70 fl_RX9_147 rfl e41 ?_
        refine mw_bipush (v := 6) dX9_know_73 (by decide) ?_
        refine mw_aload_n (x := (some a0)) dX9_know_75 rfl ?_
        obtain ⟨x42, e43, r57⟩ := ob r57
        refine ml_getQ dX9_know_76 fl_RX9_129 rfl e43 ?_
        refine mw_iload_n (x := v3) dX9_know_79 rfl ?_
        obtain ⟨x44, e45, r57⟩ := ob r57
        refine ml_iald dX9_know_80 e45 ?_
        refine mw_imul dX9_know_81 ?_
        refine mw_aload_n (x := (some a0)) dX9_know_82 rfl ?_
        obtain ⟨x46, e47, r57⟩ := ob r57
        refine ml_getQ dX9_know_83 fl_RX9_132 rfl e47 ?_
        refine mw_iload_n (x := v3) dX9_know_86 rfl ?_
        obtain ⟨x48, e49, r57⟩ := ob r57
        refine ml_iald dX9_know_87 e49 ?_
        refine mw_iadd dX9_know_88 ?_
        refine mw_aload_n (x := (some a0)) dX9_know_89 rfl ?_
        obtain ⟨x50, e51, r57⟩ := ob r57
        refine ml_getQ dX9_know_90 fl_RX9_135 rfl e51 ?_
        refine mw_iload_n (x := v3) dX9_know_93 rfl ?_
        obtain ⟨x52, e53, r57⟩ := ob r57
        refine ml_iald dX9_know_94 e53 ?_
        obtain ⟨h54, e55, r57⟩ := ob r57
        refine ml_iast dX9_know_95 e55 ?_
        obtain rfl := y0 r57
        exact MW.sub (subL_s (subL_s (subL_s (subL_s (subL_n subL_nil))))) J187
set_option maxHeartbeats 4000000 in
theorem tl_X9_know_170 (E : En) (d : Nat) {mc ms : Nat} {K : Option Vv → Hp → Prop} : ∀ (n : Nat) (a0 : Nat) (v3 : Int32) (v4 : Int32) (h : Hp) (hz : Hp), f_X9_know_L170 n a0 v3 v4 h = some hz → MW E m_X9_know (d + 4) mc ms 205 [some (vq (some a0)), none, none, some (vi v3), none] [] hz K → MW E m_X9_know (d + 4) mc ms 170 [some (vq (some a0)), none, none, some (vi v3), some (vi v4)] [] h K := by
  intro n
  induction n with
  | zero => intro a0 v3 v4 h hz hf; exact nomatch (show none = some _ from hf)
  | succ n ih =>
    intro a0 v3 v4 h hz hf hX205
    rw [f_X9_know_L170] at hf
    refine mw_iload (x := v4) dX9_know_170 rfl ?_
    refine mw_bipush (v := 6) dX9_know_172 (by decide) ?_
    refine mw_icmp_ge (tgt := 205) dX9_know_174 rfl (fun c112 => ?_) (fun c112 => ?_)
    · rw [if_pos c112] at hf
      obtain rfl := y0 hf
      exact MW.sub (subL_s (subL_n (subL_n (subL_s (subL_n subL_nil))))) hX205
    · rw [if_neg c112] at hf
      refine mw_aload_n (x := (some a0)) dX9_know_177 rfl ?_
      obtain ⟨x113, e114, hf⟩ := ob hf
      refine ml_getQ dX9_know_178 fl_RX9_159 rfl e114 ?_
      refine mw_iload_n (x := v3) dX9_know_181 rfl ?_
      obtain ⟨x115, e116, hf⟩ := ob hf
      refine ml_zald dX9_know_182 e116 ?_
      refine mw_if_eq (tgt := 205) dX9_know_183 rfl (fun c117 => ?_) (fun c117 => ?_)
      · rw [if_pos c117] at hf
        obtain rfl := y0 hf
        exact MW.sub (subL_s (subL_n (subL_n (subL_s (subL_n subL_nil))))) hX205
      · rw [if_neg c117] at hf
        refine mw_aload_n (x := (some a0)) dX9_know_186 rfl ?_
        obtain ⟨x118, e119, hf⟩ := ob hf
        refine ml_getQ dX9_know_187 fl_RX9_147 rfl e119 ?_
        refine mw_bipush (v := 6) dX9_know_190 (by decide) ?_
        refine mw_iload_n (x := v3) dX9_know_192 rfl ?_
        refine mw_imul dX9_know_193 ?_
        refine mw_iload (x := v4) dX9_know_194 rfl ?_
        refine mw_iadd dX9_know_196 ?_
        refine mw_iconst (v := 0) dX9_know_197 (by decide) ?_
        obtain ⟨h120, e121, hf⟩ := ob hf
        refine ml_iast dX9_know_198 e121 ?_
        refine mw_iinc (x := v4) (v := v4 + 1) dX9_know_199 rfl rfl (by decide) rfl ?_
        refine mw_goto (tgt := 170) dX9_know_202 rfl ?_
        exact MW.sub (subL_s (subL_n (subL_n (subL_s (subL_s subL_nil))))) (ih _ _ _ _ _ hf hX205)
set_option maxHeartbeats 4000000 in
theorem tl_X9_know_161 (E : En) (d : Nat) {mc ms : Nat} {K : Option Vv → Hp → Prop} : ∀ (n : Nat) (a0 : Nat) (v3 : Int32) (h : Hp) (hz : Hp), f_X9_know_L161 n a0 v3 h = some hz → MW E m_X9_know (d + 4) mc ms 211 [some (vq (some a0)), none, none, none, none] [] hz K → MW E m_X9_know (d + 4) mc ms 161 [some (vq (some a0)), none, none, some (vi v3), none] [] h K := by
  intro n
  induction n with
  | zero => intro a0 v3 h hz hf; exact nomatch (show none = some _ from hf)
  | succ n ih =>
    intro a0 v3 h hz hf hX211
    rw [f_X9_know_L161] at hf
    refine mw_iload_n (x := v3) dX9_know_161 rfl ?_
    refine mw_bipush (v := 104) dX9_know_162 (by decide) ?_
    refine mw_icmp_ge (tgt := 211) dX9_know_164 rfl (fun c111 => ?_) (fun c111 => ?_)
    · rw [if_pos c111] at hf
      obtain rfl := y0 hf
      exact MW.sub (subL_s (subL_n (subL_n (subL_n (subL_n subL_nil))))) hX211
    · rw [if_neg c111] at hf
      refine mw_iconst (v := 0) dX9_know_167 (by decide) ?_
      refine mw_istore dX9_know_168 (by decide) rfl ?_
      obtain ⟨h122, e123, hf⟩ := ob hf
      refine MW.sub (subL_s (subL_n (subL_n (subL_s (subL_s subL_nil))))) (tl_X9_know_170 E d _ _ _ _ _ _ e123 ?_)
      refine mw_iinc (x := v3) (v := v3 + 1) dX9_know_205 rfl rfl (by decide) rfl ?_
      refine mw_goto (tgt := 161) dX9_know_208 rfl ?_
      exact MW.sub (subL_s (subL_n (subL_n (subL_s (subL_n subL_nil))))) (ih _ _ _ _ hf hX211)
set_option maxHeartbeats 4000000 in
theorem tl_X9_know_241 (E : En) (d : Nat) {mc ms : Nat} {K : Option Vv → Hp → Prop} : ∀ (n : Nat) (a0 : Nat) (v3 : Int32) (v4 : Int32) (h : Hp) (hz : Hp), f_X9_know_L241 n a0 v3 v4 h = some hz → MW E m_X9_know (d + 4) mc ms 305 [none, none, none, none, none] [] hz K → MW E m_X9_know (d + 4) mc ms 241 [some (vq (some a0)), none, none, some (vi v3), some (vi v4)] [] h K := by
  intro n
  induction n with
  | zero => intro a0 v3 v4 h hz hf; exact nomatch (show none = some _ from hf)
  | succ n ih =>
    intro a0 v3 v4 h hz hf hX305
    rw [f_X9_know_L241] at hf
    refine mw_iload (x := v4) dX9_know_241 rfl ?_
    refine mw_bipush (v := 104) dX9_know_243 (by decide) ?_
    refine mw_icmp_ge (tgt := 305) dX9_know_245 rfl (fun c144 => ?_) (fun c144 => ?_)
    · rw [if_pos c144] at hf
      obtain rfl := y0 hf
      exact MW.sub (subL_n (subL_n (subL_n (subL_n (subL_n subL_nil))))) hX305
    · rw [if_neg c144] at hf
      refine mw_aload_n (x := (some a0)) dX9_know_248 rfl ?_
      obtain ⟨x145, e146, hf⟩ := ob hf
      refine ml_getQ dX9_know_249 fl_RX9_150 rfl e146 ?_
      refine mw_iload (x := v4) dX9_know_252 rfl ?_
      refine mw_aload_n (x := (some a0)) dX9_know_254 rfl ?_
      obtain ⟨x147, e148, hf⟩ := ob hf
      refine ml_getQ dX9_know_255 fl_RX9_147 rfl e148 ?_
      refine mw_bipush (v := 6) dX9_know_258 (by decide) ?_
      refine mw_iload (x := v4) dX9_know_260 rfl ?_
      refine mw_imul dX9_know_262 ?_
      obtain ⟨x149, e150, hf⟩ := ob hf
      refine ml_iald dX9_know_263 e150 ?_
      obtain ⟨h151, e152, hf⟩ := ob hf
      refine ml_iast dX9_know_264 e152 ?_
      refine mw_aload_n (x := (some a0)) dX9_know_265 rfl ?_
      obtain ⟨x153, e154, hf⟩ := ob hf
      refine ml_getQ dX9_know_266 fl_RX9_153 rfl e154 ?_
      refine mw_iload (x := v4) dX9_know_269 rfl ?_
      refine mw_aload_n (x := (some a0)) dX9_know_271 rfl ?_
      obtain ⟨x155, e156, hf⟩ := ob hf
      refine ml_getQ dX9_know_272 fl_RX9_147 rfl e156 ?_
      refine mw_bipush (v := 6) dX9_know_275 (by decide) ?_
      refine mw_iload (x := v4) dX9_know_277 rfl ?_
      refine mw_imul dX9_know_279 ?_
      obtain ⟨x157, e158, hf⟩ := ob hf
      refine ml_iald dX9_know_280 e158 ?_
      obtain ⟨h159, e160, hf⟩ := ob hf
      refine ml_iast dX9_know_281 e160 ?_
      refine mw_aload_n (x := (some a0)) dX9_know_282 rfl ?_
      obtain ⟨x161, e162, hf⟩ := ob hf
      refine ml_getQ dX9_know_283 fl_RX9_159 rfl e162 ?_
      refine mw_iload (x := v4) dX9_know_286 rfl ?_
      obtain ⟨x163, e164, hf⟩ := ob hf
      refine ml_zald dX9_know_288 e164 ?_
      obtain ⟨h174, r175, hf⟩ := ob hf
      have J190 : MW E m_X9_know (d + 4) mc ms 299 [some (vq (some a0)), none, none, some (vi v3), some (vi v4)] [] h174 K := by
        refine mw_iinc (x := v4) (v := v4 + 1) dX9_know_299 rfl rfl (by decide) rfl ?_
        refine mw_goto (tgt := 241) dX9_know_302 rfl ?_
        exact MW.sub (subL_s (subL_n (subL_n (subL_s (subL_s subL_nil))))) (ih _ _ _ _ _ hf hX305)
      refine mw_if_eq (tgt := 299) dX9_know_289 rfl (fun c165 => ?_) (fun c165 => ?_)
      · rw [if_pos c165] at r175
        obtain rfl := y0 r175
        exact MW.sub (subL_s (subL_n (subL_n (subL_s (subL_s subL_nil))))) J190
      · rw [if_neg c165] at r175
        refine mw_aload_n (x := (some a0)) dX9_know_292 rfl ?_
        refine mw_iload (x := v4) dX9_know_293 rfl ?_
        refine mw_iload_n (x := v3) dX9_know_295 rfl ?_
        obtain ⟨g172, e173, r175⟩ := ob r175
        obtain ⟨h170, e171, r175⟩ := ob r175
        refine ml_callV (ci := 8) (mc' := 0) (ms' := 0) [vi v4, vi v3] dX9_know_296 mk_X9_spread lk_RX9_372 im_X9_spread se_X9_spread (by decide) e173 rfl (Nat.le_of_ble_eq_true rfl) (Nat.le_of_ble_eq_true rfl) (t_X9_spread E _ e171 isR_rfl) ?_
        obtain rfl := y0 r175
        exact MW.sub (subL_s (subL_n (subL_n (subL_s (subL_s subL_nil))))) J190
set_option maxHeartbeats 4000000 in
theorem t_X9_know (E : En) (d : Nat) {mc ms : Nat} {a0 : Nat} {v1 : Int32} {v2 : Int32} {h h' : Hp} {K : Option Vv → Hp → Prop} (hf : f_X9_know a0 v1 v2 h = some h') (hk : K none h') : MC E m_X9_know (d + 4) mc ms [vq (some a0), vi v1, vi v2] h K := by
  unfold f_X9_know at hf
  show MW E m_X9_know (d + 4) mc ms 0 [some (vq (some a0)), some (vi v1), some (vi v2), none, none] [] h K
  refine mw_iconst (v := 0) dX9_know_0 (by decide) ?_
  refine mw_istore_n dX9_know_1 (by decide) rfl ?_
  obtain ⟨h6, e185, hf⟩ := ob hf
  refine MW.sub (subL_s (subL_s (subL_s (subL_s (subL_n subL_nil))))) (tl_X9_know_2 E d _ _ _ _ _ _ _ e185 ?_)
  refine mw_iconst (v := 0) dX9_know_22 (by decide) ?_
  refine mw_istore_n dX9_know_23 (by decide) rfl ?_
  obtain ⟨h12, e183, hf⟩ := ob hf
  refine MW.sub (subL_s (subL_s (subL_s (subL_s (subL_n subL_nil))))) (tl_X9_know_24 E d _ _ _ _ _ _ _ e183 ?_)
  refine mw_aload_n (x := (some a0)) dX9_know_43 rfl ?_
  refine mw_iconst (v := 0) dX9_know_44 (by decide) ?_
  obtain ⟨h13, e14, hf⟩ := ob hf
  refine ml_putI dX9_know_45 fl_RX9_359 (Or.inl rfl) rfl rfl e14 ?_
  refine mw_iconst (v := 0) dX9_know_48 (by decide) ?_
  refine mw_istore_n dX9_know_49 (by decide) rfl ?_
  obtain ⟨h110, e181, hf⟩ := ob hf
  refine MW.sub (subL_s (subL_s (subL_s (subL_s (subL_n subL_nil))))) (tl_X9_know_50 E d _ _ _ _ _ _ _ e181 ?_)
  refine mw_iconst (v := 0) dX9_know_159 (by decide) ?_
  refine mw_istore_n dX9_know_160 (by decide) rfl ?_
  obtain ⟨h125, e179, hf⟩ := ob hf
  refine MW.sub (subL_s (subL_n (subL_n (subL_s (subL_n subL_nil))))) (tl_X9_know_161 E d _ _ _ _ _ e179 ?_)
  refine mw_aload_n (x := (some a0)) dX9_know_211 rfl ?_
  obtain ⟨g128, e129, hf⟩ := ob hf
  obtain ⟨h126, e127, hf⟩ := ob hf
  refine ml_callV (ci := 8) (mc' := 0) (ms' := 0) [] dX9_know_212 mk_X9_seekQuarrel lk_RX9_366 im_X9_seekQuarrel se_X9_seekQuarrel (by decide) e129 rfl (Nat.le_of_ble_eq_true rfl) (Nat.le_of_ble_eq_true rfl) (t_X9_seekQuarrel E _ e127 isR_rfl) ?_
  refine mw_aload_n (x := (some a0)) dX9_know_215 rfl ?_
  obtain ⟨x130, e131, hf⟩ := ob hf
  refine ml_getI dX9_know_216 fl_RX9_369 rfl e131 ?_
  obtain ⟨w141, h142, r143, hf⟩ := ob1 hf
  have J191 : MW E m_X9_know (d + 4) mc ms 237 [some (vq (some a0)), none, none, none, none] [vi w141] h142 K := by
    refine mw_istore_n dX9_know_237 (by decide) rfl ?_
    refine mw_iconst (v := 0) dX9_know_238 (by decide) ?_
    refine mw_istore dX9_know_239 (by decide) rfl ?_
    obtain ⟨h176, e177, hf⟩ := ob hf
    refine MW.sub (subL_s (subL_n (subL_n (subL_s (subL_s subL_nil))))) (tl_X9_know_241 E d _ _ _ _ _ _ e177 ?_)
    obtain rfl := y0 hf
    exact mw_return dX9_know_305 rfl hk
  refine mw_if_ge (tgt := 233) dX9_know_219 rfl (fun c132 => ?_) (fun c132 => ?_)
  · rw [if_pos c132] at r143
    refine mw_aload_n (x := (some a0)) dX9_know_233 rfl ?_
    obtain ⟨x137, e138, r143⟩ := ob r143
    refine ml_getI dX9_know_234 fl_RX9_369 rfl e138 ?_
    obtain ⟨rfl, rfl⟩ := y1 r143
    exact MW.sub (subL_s (subL_n (subL_n (subL_n (subL_n subL_nil))))) J191
  · rw [if_neg c132] at r143
    refine mw_iconst (v := 1) dX9_know_222 (by decide) ?_
    refine mw_aload_n (x := (some a0)) dX9_know_223 rfl ?_
    obtain ⟨x139, e140, r143⟩ := ob r143
    refine ml_getI dX9_know_224 fl_RX9_359 rfl e140 ?_
    refine mw_ishl dX9_know_227 ?_
    refine mw_iconst (v := 1) dX9_know_228 (by decide) ?_
    refine mw_isub dX9_know_229 ?_
    refine mw_goto (tgt := 237) dX9_know_230 rfl ?_
    obtain ⟨rfl, rfl⟩ := y1 r143
    exact MW.sub (subL_s (subL_n (subL_n (subL_n (subL_n subL_nil))))) J191
def f_X9_habit_L18 : Nat → Nat → Int32 → Int32 → Int32 → Int32 → Hp → Option ((Int32 × Hp))
  | 0, _, _, _, _, _, _ => none
  | n + 1, a0, v1, v2, v3, v4, h =>
    if v1 ≤ v4 then
      some (v3, h)
    else
      (getQ h (some a0) 8 43).bind fun x6 =>
      (rdI h x6 10 (((6 : Int32) * v4) + v2)).bind fun x8 =>
      b1 ((if x8 ≤ (0 : Int32) then
          some (0, h)
        else
          some (1, h) : Option (Int32 × Hp))) fun w11 h12 =>
      f_X9_habit_L18 n a0 v1 v2 (v3 + w11) (v4 + 1) h12
def f_X9_habit (a0 : Nat) (v1 : Int32) (v2 : Int32) (h : Hp) : Option (Int32 × Hp) :=
  b1 ((if (12 : Int32) ≤ v1 then
      some ((v1 - (12 : Int32)), h)
    else
      some (0, h) : Option (Int32 × Hp))) fun w2 h3 =>
  b1 (f_X9_habit_L18 fu a0 v1 v2 0 w2 h3) fun w14 h15 =>
  some (w14, h15)
set_option maxHeartbeats 4000000 in
theorem tl_X9_habit_18 (E : En) (d : Nat) {mc ms : Nat} {K : Option Vv → Hp → Prop} : ∀ (n : Nat) (a0 : Nat) (v1 : Int32) (v2 : Int32) (v3 : Int32) (v4 : Int32) (h : Hp) (u3 : Int32) (hz : Hp), f_X9_habit_L18 n a0 v1 v2 v3 v4 h = some (u3, hz) → MW E m_X9_habit (d + 0) mc ms 53 [none, none, none, some (vi u3), none] [] hz K → MW E m_X9_habit (d + 0) mc ms 18 [some (vq (some a0)), some (vi v1), some (vi v2), some (vi v3), some (vi v4)] [] h K := by
  intro n
  induction n with
  | zero => intro a0 v1 v2 v3 v4 h u3 hz hf; exact nomatch (show none = some _ from hf)
  | succ n ih =>
    intro a0 v1 v2 v3 v4 h u3 hz hf hX53
    rw [f_X9_habit_L18] at hf
    refine mw_iload (x := v4) dX9_habit_18 rfl ?_
    refine mw_iload_n (x := v1) dX9_habit_20 rfl ?_
    refine mw_icmp_ge (tgt := 53) dX9_habit_21 rfl (fun c5 => ?_) (fun c5 => ?_)
    · rw [if_pos c5] at hf
      obtain ⟨rfl, rfl⟩ := y1 hf
      exact MW.sub (subL_n (subL_n (subL_n (subL_s (subL_n subL_nil))))) hX53
    · rw [if_neg c5] at hf
      refine mw_iload_n (x := v3) dX9_habit_24 rfl ?_
      refine mw_aload_n (x := (some a0)) dX9_habit_25 rfl ?_
      obtain ⟨x6, e7, hf⟩ := ob hf
      refine ml_getQ dX9_habit_26 fl_RX9_147 rfl e7 ?_
      refine mw_bipush (v := 6) dX9_habit_29 (by decide) ?_
      refine mw_iload (x := v4) dX9_habit_31 rfl ?_
      refine mw_imul dX9_habit_33 ?_
      refine mw_iload_n (x := v2) dX9_habit_34 rfl ?_
      refine mw_iadd dX9_habit_35 ?_
      obtain ⟨x8, e9, hf⟩ := ob hf
      refine ml_iald dX9_habit_36 e9 ?_
      obtain ⟨w11, h12, r13, hf⟩ := ob1 hf
      have J18 : MW E m_X9_habit (d + 0) mc ms 45 [some (vq (some a0)), some (vi v1), some (vi v2), none, some (vi v4)] [vi w11, vi v3] h12 K := by
        refine mw_iadd dX9_habit_45 ?_
        refine mw_istore_n dX9_habit_46 (by decide) rfl ?_
        refine mw_iinc (x := v4) (v := v4 + 1) dX9_habit_47 rfl rfl (by decide) rfl ?_
        refine mw_goto (tgt := 18) dX9_habit_50 rfl ?_
        exact MW.sub (subL_s (subL_s (subL_s (subL_s (subL_s subL_nil))))) (ih _ _ _ _ _ _ _ _ hf hX53)
      refine mw_if_le (tgt := 44) dX9_habit_37 rfl (fun c10 => ?_) (fun c10 => ?_)
      · rw [if_pos c10] at r13
        refine mw_iconst (v := 0) dX9_habit_44 (by decide) ?_
        obtain ⟨rfl, rfl⟩ := y1 r13
        exact MW.sub (subL_s (subL_s (subL_s (subL_n (subL_s subL_nil))))) J18
      · rw [if_neg c10] at r13
        refine mw_iconst (v := 1) dX9_habit_40 (by decide) ?_
        refine mw_goto (tgt := 45) dX9_habit_41 rfl ?_
        obtain ⟨rfl, rfl⟩ := y1 r13
        exact MW.sub (subL_s (subL_s (subL_s (subL_n (subL_s subL_nil))))) J18
set_option maxHeartbeats 4000000 in
theorem t_X9_habit (E : En) (d : Nat) {mc ms : Nat} {a0 : Nat} {v1 : Int32} {v2 : Int32} {h h' : Hp} {r : Int32} {K : Option Vv → Hp → Prop} (hf : f_X9_habit a0 v1 v2 h = some (r, h')) (hk : K (some (vi r)) h') : MC E m_X9_habit (d + 0) mc ms [vq (some a0), vi v1, vi v2] h K := by
  unfold f_X9_habit at hf
  show MW E m_X9_habit (d + 0) mc ms 0 [some (vq (some a0)), some (vi v1), some (vi v2), none, none] [] h K
  refine mw_iconst (v := 0) dX9_habit_0 (by decide) ?_
  refine mw_istore_n dX9_habit_1 (by decide) rfl ?_
  refine mw_iload_n (x := v1) dX9_habit_2 rfl ?_
  refine mw_bipush (v := 12) dX9_habit_3 (by decide) ?_
  obtain ⟨w2, h3, r4, hf⟩ := ob1 hf
  have J19 : MW E m_X9_habit (d + 0) mc ms 16 [some (vq (some a0)), some (vi v1), some (vi v2), some (vi 0), none] [vi w2] h3 K := by
    refine mw_istore dX9_habit_16 (by decide) rfl ?_
    obtain ⟨w14, h15, e16, hf⟩ := ob1 hf
    refine MW.sub (subL_s (subL_s (subL_s (subL_s (subL_s subL_nil))))) (tl_X9_habit_18 E d _ _ _ _ _ _ _ _ _ e16 ?_)
    refine mw_iload_n (x := w14) dX9_habit_53 rfl ?_
    obtain ⟨rfl, rfl⟩ := y1 hf
    exact mw_ireturn dX9_habit_54 rfl rfl hk
  refine mw_icmp_ge (tgt := 12) dX9_habit_5 rfl (fun c1 => ?_) (fun c1 => ?_)
  · rw [if_pos c1] at r4
    refine mw_iload_n (x := v1) dX9_habit_12 rfl ?_
    refine mw_bipush (v := 12) dX9_habit_13 (by decide) ?_
    refine mw_isub dX9_habit_15 ?_
    obtain ⟨rfl, rfl⟩ := y1 r4
    exact MW.sub (subL_s (subL_s (subL_s (subL_s (subL_n subL_nil))))) J19
  · rw [if_neg c1] at r4
    refine mw_iconst (v := 0) dX9_habit_8 (by decide) ?_
    refine mw_goto (tgt := 16) dX9_habit_9 rfl ?_
    obtain ⟨rfl, rfl⟩ := y1 r4
    exact MW.sub (subL_s (subL_s (subL_s (subL_s (subL_n subL_nil))))) J19
def f_X9_term (a0 : Nat) (v1 : Int32) (v2 : Int32) (v3 : Int32) (h : Hp) : Option (Int32 × Hp) :=
  if v1.toInt < 104 ∨ 119 < v1.toInt then
    (rc h (some a0) 8).bind fun g32 =>
    b1 (f_X9_habit g32 v3 v2 h) fun x34 h30 =>
    some (x34, h30)
  else if v1 = 104 then
    (getQ h (some a0) 8 43).bind fun x1 =>
    (rdI h x1 10 (((6 : Int32) * v3) + (5 : Int32))).bind fun x3 =>
    some (x3, h)
  else if v1 = 105 then
    (rc h (some a0) 8).bind fun g37 =>
    b1 (f_X9_habit g37 v3 v2 h) fun x39 h35 =>
    some (x39, h35)
  else if v1 = 106 then
    (rc h (some a0) 8).bind fun g42 =>
    b1 (f_X9_habit g42 v3 v2 h) fun x44 h40 =>
    some (x44, h40)
  else if v1 = 107 then
    (getQ h (some a0) 8 43).bind fun x5 =>
    (rdI h x5 10 (((6 : Int32) * v3) + v2)).bind fun x7 =>
    some (x7, h)
  else if v1 = 108 then
    (rc h (some a0) 8).bind fun g47 =>
    b1 (f_X9_habit g47 v3 v2 h) fun x49 h45 =>
    some (x49, h45)
  else if v1 = 109 then
    (rc h (some a0) 8).bind fun g52 =>
    b1 (f_X9_habit g52 v3 v2 h) fun x54 h50 =>
    some (x54, h50)
  else if v1 = 110 then
    some (v2, h)
  else if v1 = 111 then
    (rc h (some a0) 8).bind fun g57 =>
    b1 (f_X9_habit g57 v3 v2 h) fun x59 h55 =>
    some (x59, h55)
  else if v1 = 112 then
    (getQ h (some a0) 8 30).bind fun x9 =>
    (getI h (some a0) 8 55).bind fun x11 =>
    (rdI h x9 10 x11).bind fun x13 =>
    some (x13, h)
  else if v1 = 113 then
    (rc h (some a0) 8).bind fun g62 =>
    b1 (f_X9_habit g62 v3 v2 h) fun x64 h60 =>
    some (x64, h60)
  else if v1 = 114 then
    (getQ h (some a0) 8 39).bind fun x15 =>
    (getI h (some a0) 8 55).bind fun x17 =>
    (rdI h x15 12 x17).bind fun x19 =>
    b1 ((if x19 = (0 : Int32) then
        some (0, h)
      else
        some (1, h) : Option (Int32 × Hp))) fun w22 h23 =>
    some (w22, h23)
  else if v1 = 115 then
    (rc h (some a0) 8).bind fun g67 =>
    b1 (f_X9_habit g67 v3 v2 h) fun x69 h65 =>
    some (x69, h65)
  else if v1 = 116 then
    (rc h (some a0) 8).bind fun g27 =>
    b1 (f_X9_totalOf g27 v3 h) fun x29 h25 =>
    some (x29, h25)
  else if v1 = 117 then
    (rc h (some a0) 8).bind fun g72 =>
    b1 (f_X9_habit g72 v3 v2 h) fun x74 h70 =>
    some (x74, h70)
  else if v1 = 118 then
    (rc h (some a0) 8).bind fun g77 =>
    b1 (f_X9_habit g77 v3 v2 h) fun x79 h75 =>
    some (x79, h75)
  else if v1 = 119 then
    some (v3, h)
  else none
set_option maxHeartbeats 4000000 in
theorem t_X9_term (E : En) (d : Nat) {mc ms : Nat} {a0 : Nat} {v1 : Int32} {v2 : Int32} {v3 : Int32} {h h' : Hp} {r : Int32} {K : Option Vv → Hp → Prop} (hf : f_X9_term a0 v1 v2 v3 h = some (r, h')) (hk : K (some (vi r)) h') : MC E m_X9_term (d + 1) mc ms [vq (some a0), vi v1, vi v2, vi v3] h K := by
  unfold f_X9_term at hf
  show MW E m_X9_term (d + 1) mc ms 0 [some (vq (some a0)), some (vi v1), some (vi v2), some (vi v3)] [] h K
  refine mw_iload_n (x := v1) dX9_term_0 rfl ?_
  by_cases c80 : v1.toInt < 104 ∨ 119 < v1.toInt
  · rw [if_pos c80] at hf
    refine mw_tableOut (tgt := 142) dX9_term_1 c80 rfl ?_
    refine mw_aload_n (x := (some a0)) dX9_term_142 rfl ?_
    refine mw_iload_n (x := v3) dX9_term_143 rfl ?_
    refine mw_iload_n (x := v2) dX9_term_144 rfl ?_
    obtain ⟨g32, e33, hf⟩ := ob hf
    obtain ⟨x34, h30, e31, hf⟩ := ob1 hf
    refine ml_callV (ci := 8) (mc' := 0) (ms' := 0) [vi v3, vi v2] dX9_term_145 mk_X9_habit lk_RX9_409 im_X9_habit se_X9_habit (by decide) e33 rfl (Nat.le_of_ble_eq_true rfl) (Nat.le_of_ble_eq_true rfl) (t_X9_habit E _ e31 isR_rfl) ?_
    obtain ⟨rfl, rfl⟩ := y1 hf
    exact mw_ireturn dX9_term_148 rfl rfl hk
  rw [if_neg c80] at hf
  by_cases c80 : v1 = 104
  · rw [if_pos c80] at hf
    refine ml_tableIn (v := 104) (tgt := 94) dX9_term_1 c80 (by decide) (by decide) rfl rfl ?_
    refine mw_aload_n (x := (some a0)) dX9_term_94 rfl ?_
    obtain ⟨x1, e2, hf⟩ := ob hf
    refine ml_getQ dX9_term_95 fl_RX9_147 rfl e2 ?_
    refine mw_bipush (v := 6) dX9_term_98 (by decide) ?_
    refine mw_iload_n (x := v3) dX9_term_100 rfl ?_
    refine mw_imul dX9_term_101 ?_
    refine mw_iconst (v := 5) dX9_term_102 (by decide) ?_
    refine mw_iadd dX9_term_103 ?_
    obtain ⟨x3, e4, hf⟩ := ob hf
    refine ml_iald dX9_term_104 e4 ?_
    obtain ⟨rfl, rfl⟩ := y1 hf
    exact mw_ireturn dX9_term_105 rfl rfl hk
  rw [if_neg c80] at hf
  by_cases c80 : v1 = 105
  · rw [if_pos c80] at hf
    refine ml_tableIn (v := 105) (tgt := 142) dX9_term_1 c80 (by decide) (by decide) rfl rfl ?_
    refine mw_aload_n (x := (some a0)) dX9_term_142 rfl ?_
    refine mw_iload_n (x := v3) dX9_term_143 rfl ?_
    refine mw_iload_n (x := v2) dX9_term_144 rfl ?_
    obtain ⟨g37, e38, hf⟩ := ob hf
    obtain ⟨x39, h35, e36, hf⟩ := ob1 hf
    refine ml_callV (ci := 8) (mc' := 0) (ms' := 0) [vi v3, vi v2] dX9_term_145 mk_X9_habit lk_RX9_409 im_X9_habit se_X9_habit (by decide) e38 rfl (Nat.le_of_ble_eq_true rfl) (Nat.le_of_ble_eq_true rfl) (t_X9_habit E _ e36 isR_rfl) ?_
    obtain ⟨rfl, rfl⟩ := y1 hf
    exact mw_ireturn dX9_term_148 rfl rfl hk
  rw [if_neg c80] at hf
  by_cases c80 : v1 = 106
  · rw [if_pos c80] at hf
    refine ml_tableIn (v := 106) (tgt := 142) dX9_term_1 c80 (by decide) (by decide) rfl rfl ?_
    refine mw_aload_n (x := (some a0)) dX9_term_142 rfl ?_
    refine mw_iload_n (x := v3) dX9_term_143 rfl ?_
    refine mw_iload_n (x := v2) dX9_term_144 rfl ?_
    obtain ⟨g42, e43, hf⟩ := ob hf
    obtain ⟨x44, h40, e41, hf⟩ := ob1 hf
    refine ml_callV (ci := 8) (mc' := 0) (ms' := 0) [vi v3, vi v2] dX9_term_145 mk_X9_habit lk_RX9_409 im_X9_habit se_X9_habit (by decide) e43 rfl (Nat.le_of_ble_eq_true rfl) (Nat.le_of_ble_eq_true rfl) (t_X9_habit E _ e41 isR_rfl) ?_
    obtain ⟨rfl, rfl⟩ := y1 hf
    exact mw_ireturn dX9_term_148 rfl rfl hk
  rw [if_neg c80] at hf
  by_cases c80 : v1 = 107
  · rw [if_pos c80] at hf
    refine ml_tableIn (v := 107) (tgt := 82) dX9_term_1 c80 (by decide) (by decide) rfl rfl ?_
    refine mw_aload_n (x := (some a0)) dX9_term_82 rfl ?_
    obtain ⟨x5, e6, hf⟩ := ob hf
    refine ml_getQ dX9_term_83 fl_RX9_147 rfl e6 ?_
    refine mw_bipush (v := 6) dX9_term_86 (by decide) ?_
    refine mw_iload_n (x := v3) dX9_term_88 rfl ?_
    refine mw_imul dX9_term_89 ?_
    refine mw_iload_n (x := v2) dX9_term_90 rfl ?_
    refine mw_iadd dX9_term_91 ?_
    obtain ⟨x7, e8, hf⟩ := ob hf
    refine ml_iald dX9_term_92 e8 ?_
    obtain ⟨rfl, rfl⟩ := y1 hf
    exact mw_ireturn dX9_term_93 rfl rfl hk
  rw [if_neg c80] at hf
  by_cases c80 : v1 = 108
  · rw [if_pos c80] at hf
    refine ml_tableIn (v := 108) (tgt := 142) dX9_term_1 c80 (by decide) (by decide) rfl rfl ?_
    refine mw_aload_n (x := (some a0)) dX9_term_142 rfl ?_
    refine mw_iload_n (x := v3) dX9_term_143 rfl ?_
    refine mw_iload_n (x := v2) dX9_term_144 rfl ?_
    obtain ⟨g47, e48, hf⟩ := ob hf
    obtain ⟨x49, h45, e46, hf⟩ := ob1 hf
    refine ml_callV (ci := 8) (mc' := 0) (ms' := 0) [vi v3, vi v2] dX9_term_145 mk_X9_habit lk_RX9_409 im_X9_habit se_X9_habit (by decide) e48 rfl (Nat.le_of_ble_eq_true rfl) (Nat.le_of_ble_eq_true rfl) (t_X9_habit E _ e46 isR_rfl) ?_
    obtain ⟨rfl, rfl⟩ := y1 hf
    exact mw_ireturn dX9_term_148 rfl rfl hk
  rw [if_neg c80] at hf
  by_cases c80 : v1 = 109
  · rw [if_pos c80] at hf
    refine ml_tableIn (v := 109) (tgt := 142) dX9_term_1 c80 (by decide) (by decide) rfl rfl ?_
    refine mw_aload_n (x := (some a0)) dX9_term_142 rfl ?_
    refine mw_iload_n (x := v3) dX9_term_143 rfl ?_
    refine mw_iload_n (x := v2) dX9_term_144 rfl ?_
    obtain ⟨g52, e53, hf⟩ := ob hf
    obtain ⟨x54, h50, e51, hf⟩ := ob1 hf
    refine ml_callV (ci := 8) (mc' := 0) (ms' := 0) [vi v3, vi v2] dX9_term_145 mk_X9_habit lk_RX9_409 im_X9_habit se_X9_habit (by decide) e53 rfl (Nat.le_of_ble_eq_true rfl) (Nat.le_of_ble_eq_true rfl) (t_X9_habit E _ e51 isR_rfl) ?_
    obtain ⟨rfl, rfl⟩ := y1 hf
    exact mw_ireturn dX9_term_148 rfl rfl hk
  rw [if_neg c80] at hf
  by_cases c80 : v1 = 110
  · rw [if_pos c80] at hf
    refine ml_tableIn (v := 110) (tgt := 80) dX9_term_1 c80 (by decide) (by decide) rfl rfl ?_
    refine mw_iload_n (x := v2) dX9_term_80 rfl ?_
    obtain ⟨rfl, rfl⟩ := y1 hf
    exact mw_ireturn dX9_term_81 rfl rfl hk
  rw [if_neg c80] at hf
  by_cases c80 : v1 = 111
  · rw [if_pos c80] at hf
    refine ml_tableIn (v := 111) (tgt := 142) dX9_term_1 c80 (by decide) (by decide) rfl rfl ?_
    refine mw_aload_n (x := (some a0)) dX9_term_142 rfl ?_
    refine mw_iload_n (x := v3) dX9_term_143 rfl ?_
    refine mw_iload_n (x := v2) dX9_term_144 rfl ?_
    obtain ⟨g57, e58, hf⟩ := ob hf
    obtain ⟨x59, h55, e56, hf⟩ := ob1 hf
    refine ml_callV (ci := 8) (mc' := 0) (ms' := 0) [vi v3, vi v2] dX9_term_145 mk_X9_habit lk_RX9_409 im_X9_habit se_X9_habit (by decide) e58 rfl (Nat.le_of_ble_eq_true rfl) (Nat.le_of_ble_eq_true rfl) (t_X9_habit E _ e56 isR_rfl) ?_
    obtain ⟨rfl, rfl⟩ := y1 hf
    exact mw_ireturn dX9_term_148 rfl rfl hk
  rw [if_neg c80] at hf
  by_cases c80 : v1 = 112
  · rw [if_pos c80] at hf
    refine ml_tableIn (v := 112) (tgt := 114) dX9_term_1 c80 (by decide) (by decide) rfl rfl ?_
    refine mw_aload_n (x := (some a0)) dX9_term_114 rfl ?_
    obtain ⟨x9, e10, hf⟩ := ob hf
    refine ml_getQ dX9_term_115 fl_RX9_117 rfl e10 ?_
    refine mw_aload_n (x := (some a0)) dX9_term_118 rfl ?_
    obtain ⟨x11, e12, hf⟩ := ob hf
    refine ml_getI dX9_term_119 fl_RX9_406 rfl e12 ?_
    obtain ⟨x13, e14, hf⟩ := ob hf
    refine ml_iald dX9_term_122 e14 ?_
    obtain ⟨rfl, rfl⟩ := y1 hf
    exact mw_ireturn dX9_term_123 rfl rfl hk
  rw [if_neg c80] at hf
  by_cases c80 : v1 = 113
  · rw [if_pos c80] at hf
    refine ml_tableIn (v := 113) (tgt := 142) dX9_term_1 c80 (by decide) (by decide) rfl rfl ?_
    refine mw_aload_n (x := (some a0)) dX9_term_142 rfl ?_
    refine mw_iload_n (x := v3) dX9_term_143 rfl ?_
    refine mw_iload_n (x := v2) dX9_term_144 rfl ?_
    obtain ⟨g62, e63, hf⟩ := ob hf
    obtain ⟨x64, h60, e61, hf⟩ := ob1 hf
    refine ml_callV (ci := 8) (mc' := 0) (ms' := 0) [vi v3, vi v2] dX9_term_145 mk_X9_habit lk_RX9_409 im_X9_habit se_X9_habit (by decide) e63 rfl (Nat.le_of_ble_eq_true rfl) (Nat.le_of_ble_eq_true rfl) (t_X9_habit E _ e61 isR_rfl) ?_
    obtain ⟨rfl, rfl⟩ := y1 hf
    exact mw_ireturn dX9_term_148 rfl rfl hk
  rw [if_neg c80] at hf
  by_cases c80 : v1 = 114
  · rw [if_pos c80] at hf
    refine ml_tableIn (v := 114) (tgt := 124) dX9_term_1 c80 (by decide) (by decide) rfl rfl ?_
    refine mw_aload_n (x := (some a0)) dX9_term_124 rfl ?_
    obtain ⟨x15, e16, hf⟩ := ob hf
    refine ml_getQ dX9_term_125 fl_RX9_144 rfl e16 ?_
    refine mw_aload_n (x := (some a0)) dX9_term_128 rfl ?_
    obtain ⟨x17, e18, hf⟩ := ob hf
    refine ml_getI dX9_term_129 fl_RX9_406 rfl e18 ?_
    obtain ⟨x19, e20, hf⟩ := ob hf
    refine ml_zald dX9_term_132 e20 ?_
    obtain ⟨w22, h23, r24, hf⟩ := ob1 hf
    have J81 : MW E m_X9_term (d + 1) mc ms 141 [none, none, none, none] [vi w22] h23 K := by
      obtain ⟨rfl, rfl⟩ := y1 hf
      exact mw_ireturn dX9_term_141 rfl rfl hk
    refine mw_if_eq (tgt := 140) dX9_term_133 rfl (fun c21 => ?_) (fun c21 => ?_)
    · rw [if_pos c21] at r24
      refine mw_iconst (v := 0) dX9_term_140 (by decide) ?_
      obtain ⟨rfl, rfl⟩ := y1 r24
      exact MW.sub (subL_n (subL_n (subL_n (subL_n subL_nil)))) J81
    · rw [if_neg c21] at r24
      refine mw_iconst (v := 1) dX9_term_136 (by decide) ?_
      refine mw_goto (tgt := 141) dX9_term_137 rfl ?_
      obtain ⟨rfl, rfl⟩ := y1 r24
      exact MW.sub (subL_n (subL_n (subL_n (subL_n subL_nil)))) J81
  rw [if_neg c80] at hf
  by_cases c80 : v1 = 115
  · rw [if_pos c80] at hf
    refine ml_tableIn (v := 115) (tgt := 142) dX9_term_1 c80 (by decide) (by decide) rfl rfl ?_
    refine mw_aload_n (x := (some a0)) dX9_term_142 rfl ?_
    refine mw_iload_n (x := v3) dX9_term_143 rfl ?_
    refine mw_iload_n (x := v2) dX9_term_144 rfl ?_
    obtain ⟨g67, e68, hf⟩ := ob hf
    obtain ⟨x69, h65, e66, hf⟩ := ob1 hf
    refine ml_callV (ci := 8) (mc' := 0) (ms' := 0) [vi v3, vi v2] dX9_term_145 mk_X9_habit lk_RX9_409 im_X9_habit se_X9_habit (by decide) e68 rfl (Nat.le_of_ble_eq_true rfl) (Nat.le_of_ble_eq_true rfl) (t_X9_habit E _ e66 isR_rfl) ?_
    obtain ⟨rfl, rfl⟩ := y1 hf
    exact mw_ireturn dX9_term_148 rfl rfl hk
  rw [if_neg c80] at hf
  by_cases c80 : v1 = 116
  · rw [if_pos c80] at hf
    refine ml_tableIn (v := 116) (tgt := 106) dX9_term_1 c80 (by decide) (by decide) rfl rfl ?_
    refine mw_aload_n (x := (some a0)) dX9_term_106 rfl ?_
    refine mw_iload_n (x := v3) dX9_term_107 rfl ?_
    obtain ⟨g27, e28, hf⟩ := ob hf
    obtain ⟨x29, h25, e26, hf⟩ := ob1 hf
    refine ml_callV (ci := 8) (mc' := 0) (ms' := 0) [vi v3] dX9_term_108 mk_X9_totalOf lk_RX9_381 im_X9_totalOf se_X9_totalOf (by decide) e28 rfl (Nat.le_of_ble_eq_true rfl) (Nat.le_of_ble_eq_true rfl) (t_X9_totalOf E _ e26 isR_rfl) ?_
    obtain ⟨rfl, rfl⟩ := y1 hf
    exact mw_ireturn dX9_term_111 rfl rfl hk
  rw [if_neg c80] at hf
  by_cases c80 : v1 = 117
  · rw [if_pos c80] at hf
    refine ml_tableIn (v := 117) (tgt := 142) dX9_term_1 c80 (by decide) (by decide) rfl rfl ?_
    refine mw_aload_n (x := (some a0)) dX9_term_142 rfl ?_
    refine mw_iload_n (x := v3) dX9_term_143 rfl ?_
    refine mw_iload_n (x := v2) dX9_term_144 rfl ?_
    obtain ⟨g72, e73, hf⟩ := ob hf
    obtain ⟨x74, h70, e71, hf⟩ := ob1 hf
    refine ml_callV (ci := 8) (mc' := 0) (ms' := 0) [vi v3, vi v2] dX9_term_145 mk_X9_habit lk_RX9_409 im_X9_habit se_X9_habit (by decide) e73 rfl (Nat.le_of_ble_eq_true rfl) (Nat.le_of_ble_eq_true rfl) (t_X9_habit E _ e71 isR_rfl) ?_
    obtain ⟨rfl, rfl⟩ := y1 hf
    exact mw_ireturn dX9_term_148 rfl rfl hk
  rw [if_neg c80] at hf
  by_cases c80 : v1 = 118
  · rw [if_pos c80] at hf
    refine ml_tableIn (v := 118) (tgt := 142) dX9_term_1 c80 (by decide) (by decide) rfl rfl ?_
    refine mw_aload_n (x := (some a0)) dX9_term_142 rfl ?_
    refine mw_iload_n (x := v3) dX9_term_143 rfl ?_
    refine mw_iload_n (x := v2) dX9_term_144 rfl ?_
    obtain ⟨g77, e78, hf⟩ := ob hf
    obtain ⟨x79, h75, e76, hf⟩ := ob1 hf
    refine ml_callV (ci := 8) (mc' := 0) (ms' := 0) [vi v3, vi v2] dX9_term_145 mk_X9_habit lk_RX9_409 im_X9_habit se_X9_habit (by decide) e78 rfl (Nat.le_of_ble_eq_true rfl) (Nat.le_of_ble_eq_true rfl) (t_X9_habit E _ e76 isR_rfl) ?_
    obtain ⟨rfl, rfl⟩ := y1 hf
    exact mw_ireturn dX9_term_148 rfl rfl hk
  rw [if_neg c80] at hf
  by_cases c80 : v1 = 119
  · rw [if_pos c80] at hf
    refine ml_tableIn (v := 119) (tgt := 112) dX9_term_1 c80 (by decide) (by decide) rfl rfl ?_
    refine mw_iload_n (x := v3) dX9_term_112 rfl ?_
    obtain ⟨rfl, rfl⟩ := y1 hf
    exact mw_ireturn dX9_term_113 rfl rfl hk
  rw [if_neg c80] at hf
  cases hf
def f_X9_two (v0 : Int32) (v1 : Int32) (v2 : Int32) (h : Hp) : Option (Int32 × Hp) :=
  if v0.toInt < 38 ∨ 62 < v0.toInt then
    b1 ((if v1 = (0 : Int32) then
        if v2 = (0 : Int32) then
          some (0, h)
        else
          some (1, h)
      else
        some (1, h) : Option (Int32 × Hp))) fun w30 h31 =>
    some (w30, h31)
  else if v0 = 38 then
    b1 ((if v1 = (0 : Int32) then
        some (0, h)
      else
        if v2 = (0 : Int32) then
          some (0, h)
        else
          some (1, h) : Option (Int32 × Hp))) fun w4 h5 =>
    some (w4, h5)
  else if v0 = 39 then
    b1 ((if v1 = (0 : Int32) then
        if v2 = (0 : Int32) then
          some (0, h)
        else
          some (1, h)
      else
        some (1, h) : Option (Int32 × Hp))) fun w36 h37 =>
    some (w36, h37)
  else if v0 = 40 then
    b1 ((if v1 = (0 : Int32) then
        if v2 = (0 : Int32) then
          some (0, h)
        else
          some (1, h)
      else
        some (1, h) : Option (Int32 × Hp))) fun w42 h43 =>
    some (w42, h43)
  else if v0 = 41 then
    b1 ((if v1 = (0 : Int32) then
        if v2 = (0 : Int32) then
          some (0, h)
        else
          some (1, h)
      else
        some (1, h) : Option (Int32 × Hp))) fun w48 h49 =>
    some (w48, h49)
  else if v0 = 42 then
    some ((v1 * v2), h)
  else if v0 = 43 then
    some ((v1 + v2), h)
  else if v0 = 44 then
    b1 ((if v1 = (0 : Int32) then
        if v2 = (0 : Int32) then
          some (0, h)
        else
          some (1, h)
      else
        some (1, h) : Option (Int32 × Hp))) fun w54 h55 =>
    some (w54, h55)
  else if v0 = 45 then
    some ((v1 - v2), h)
  else if v0 = 46 then
    b1 ((if v1 = (0 : Int32) then
        if v2 = (0 : Int32) then
          some (0, h)
        else
          some (1, h)
      else
        some (1, h) : Option (Int32 × Hp))) fun w60 h61 =>
    some (w60, h61)
  else if v0 = 47 then
    b1 ((if v2 = (0 : Int32) then
        some (0, h)
      else
        (dvI v1 v2).bind fun x10 =>
        some (x10, h) : Option (Int32 × Hp))) fun w12 h13 =>
    some (w12, h13)
  else if v0 = 48 then
    b1 ((if v1 = (0 : Int32) then
        if v2 = (0 : Int32) then
          some (0, h)
        else
          some (1, h)
      else
        some (1, h) : Option (Int32 × Hp))) fun w66 h67 =>
    some (w66, h67)
  else if v0 = 49 then
    b1 ((if v1 = (0 : Int32) then
        if v2 = (0 : Int32) then
          some (0, h)
        else
          some (1, h)
      else
        some (1, h) : Option (Int32 × Hp))) fun w72 h73 =>
    some (w72, h73)
  else if v0 = 50 then
    b1 ((if v1 = (0 : Int32) then
        if v2 = (0 : Int32) then
          some (0, h)
        else
          some (1, h)
      else
        some (1, h) : Option (Int32 × Hp))) fun w78 h79 =>
    some (w78, h79)
  else if v0 = 51 then
    b1 ((if v1 = (0 : Int32) then
        if v2 = (0 : Int32) then
          some (0, h)
        else
          some (1, h)
      else
        some (1, h) : Option (Int32 × Hp))) fun w84 h85 =>
    some (w84, h85)
  else if v0 = 52 then
    b1 ((if v1 = (0 : Int32) then
        if v2 = (0 : Int32) then
          some (0, h)
        else
          some (1, h)
      else
        some (1, h) : Option (Int32 × Hp))) fun w90 h91 =>
    some (w90, h91)
  else if v0 = 53 then
    b1 ((if v1 = (0 : Int32) then
        if v2 = (0 : Int32) then
          some (0, h)
        else
          some (1, h)
      else
        some (1, h) : Option (Int32 × Hp))) fun w96 h97 =>
    some (w96, h97)
  else if v0 = 54 then
    b1 ((if v1 = (0 : Int32) then
        if v2 = (0 : Int32) then
          some (0, h)
        else
          some (1, h)
      else
        some (1, h) : Option (Int32 × Hp))) fun w102 h103 =>
    some (w102, h103)
  else if v0 = 55 then
    b1 ((if v1 = (0 : Int32) then
        if v2 = (0 : Int32) then
          some (0, h)
        else
          some (1, h)
      else
        some (1, h) : Option (Int32 × Hp))) fun w108 h109 =>
    some (w108, h109)
  else if v0 = 56 then
    b1 ((if v1 = (0 : Int32) then
        if v2 = (0 : Int32) then
          some (0, h)
        else
          some (1, h)
      else
        some (1, h) : Option (Int32 × Hp))) fun w114 h115 =>
    some (w114, h115)
  else if v0 = 57 then
    b1 ((if v1 = (0 : Int32) then
        if v2 = (0 : Int32) then
          some (0, h)
        else
          some (1, h)
      else
        some (1, h) : Option (Int32 × Hp))) fun w120 h121 =>
    some (w120, h121)
  else if v0 = 58 then
    b1 ((if v1 = (0 : Int32) then
        if v2 = (0 : Int32) then
          some (0, h)
        else
          some (1, h)
      else
        some (1, h) : Option (Int32 × Hp))) fun w126 h127 =>
    some (w126, h127)
  else if v0 = 59 then
    b1 ((if v1 = (0 : Int32) then
        if v2 = (0 : Int32) then
          some (0, h)
        else
          some (1, h)
      else
        some (1, h) : Option (Int32 × Hp))) fun w132 h133 =>
    some (w132, h133)
  else if v0 = 60 then
    b1 ((if v2 ≤ v1 then
        some (0, h)
      else
        some (1, h) : Option (Int32 × Hp))) fun w16 h17 =>
    some (w16, h17)
  else if v0 = 61 then
    b1 ((if v1 = v2 then
        some (1, h)
      else
        some (0, h) : Option (Int32 × Hp))) fun w20 h21 =>
    some (w20, h21)
  else if v0 = 62 then
    b1 ((if v1 ≤ v2 then
        some (0, h)
      else
        some (1, h) : Option (Int32 × Hp))) fun w24 h25 =>
    some (w24, h25)
  else none
set_option maxHeartbeats 4000000 in
theorem t_X9_two (E : En) (d : Nat) {mc ms : Nat} {v0 : Int32} {v1 : Int32} {v2 : Int32} {h h' : Hp} {r : Int32} {K : Option Vv → Hp → Prop} (hf : f_X9_two v0 v1 v2 h = some (r, h')) (hk : K (some (vi r)) h') : MC E m_X9_two (d + 0) mc ms [vi v0, vi v1, vi v2] h K := by
  unfold f_X9_two at hf
  show MW E m_X9_two (d + 0) mc ms 0 [some (vi v0), some (vi v1), some (vi v2)] [] h K
  refine mw_iload_n (x := v0) dX9_two_0 rfl ?_
  by_cases c135 : v0.toInt < 38 ∨ 62 < v0.toInt
  · rw [if_pos c135] at hf
    refine mw_tableOut (tgt := 187) dX9_two_1 c135 rfl ?_
    refine mw_iload_n (x := v1) dX9_two_187 rfl ?_
    obtain ⟨w30, h31, r32, hf⟩ := ob1 hf
    have J136 : MW E m_X9_two (d + 0) mc ms 200 [none, none, none] [vi w30] h31 K := by
      obtain ⟨rfl, rfl⟩ := y1 hf
      exact mw_ireturn dX9_two_200 rfl rfl hk
    refine mw_if_ne (tgt := 195) dX9_two_188 rfl (fun c27 => ?_) (fun c27 => ?_)
    · rw [if_neg c27] at r32
      refine mw_iconst (v := 1) dX9_two_195 (by decide) ?_
      refine mw_goto (tgt := 200) dX9_two_196 rfl ?_
      obtain ⟨rfl, rfl⟩ := y1 r32
      exact MW.sub (subL_n (subL_n (subL_n subL_nil))) J136
    · rw [if_pos c27] at r32
      refine mw_iload_n (x := v2) dX9_two_191 rfl ?_
      refine mw_if_eq (tgt := 199) dX9_two_192 rfl (fun c29 => ?_) (fun c29 => ?_)
      · rw [if_pos c29] at r32
        refine mw_iconst (v := 0) dX9_two_199 (by decide) ?_
        obtain ⟨rfl, rfl⟩ := y1 r32
        exact MW.sub (subL_n (subL_n (subL_n subL_nil))) J136
      · rw [if_neg c29] at r32
        refine mw_iconst (v := 1) dX9_two_195 (by decide) ?_
        refine mw_goto (tgt := 200) dX9_two_196 rfl ?_
        obtain ⟨rfl, rfl⟩ := y1 r32
        exact MW.sub (subL_n (subL_n (subL_n subL_nil))) J136
  rw [if_neg c135] at hf
  by_cases c135 : v0 = 38
  · rw [if_pos c135] at hf
    refine ml_tableIn (v := 38) (tgt := 173) dX9_two_1 c135 (by decide) (by decide) rfl rfl ?_
    refine mw_iload_n (x := v1) dX9_two_173 rfl ?_
    obtain ⟨w4, h5, r6, hf⟩ := ob1 hf
    have J137 : MW E m_X9_two (d + 0) mc ms 186 [none, none, none] [vi w4] h5 K := by
      obtain ⟨rfl, rfl⟩ := y1 hf
      exact mw_ireturn dX9_two_186 rfl rfl hk
    refine mw_if_eq (tgt := 185) dX9_two_174 rfl (fun c1 => ?_) (fun c1 => ?_)
    · rw [if_pos c1] at r6
      refine mw_iconst (v := 0) dX9_two_185 (by decide) ?_
      obtain ⟨rfl, rfl⟩ := y1 r6
      exact MW.sub (subL_n (subL_n (subL_n subL_nil))) J137
    · rw [if_neg c1] at r6
      refine mw_iload_n (x := v2) dX9_two_177 rfl ?_
      refine mw_if_eq (tgt := 185) dX9_two_178 rfl (fun c3 => ?_) (fun c3 => ?_)
      · rw [if_pos c3] at r6
        refine mw_iconst (v := 0) dX9_two_185 (by decide) ?_
        obtain ⟨rfl, rfl⟩ := y1 r6
        exact MW.sub (subL_n (subL_n (subL_n subL_nil))) J137
      · rw [if_neg c3] at r6
        refine mw_iconst (v := 1) dX9_two_181 (by decide) ?_
        refine mw_goto (tgt := 186) dX9_two_182 rfl ?_
        obtain ⟨rfl, rfl⟩ := y1 r6
        exact MW.sub (subL_n (subL_n (subL_n subL_nil))) J137
  rw [if_neg c135] at hf
  by_cases c135 : v0 = 39
  · rw [if_pos c135] at hf
    refine ml_tableIn (v := 39) (tgt := 187) dX9_two_1 c135 (by decide) (by decide) rfl rfl ?_
    refine mw_iload_n (x := v1) dX9_two_187 rfl ?_
    obtain ⟨w36, h37, r38, hf⟩ := ob1 hf
    have J138 : MW E m_X9_two (d + 0) mc ms 200 [none, none, none] [vi w36] h37 K := by
      obtain ⟨rfl, rfl⟩ := y1 hf
      exact mw_ireturn dX9_two_200 rfl rfl hk
    refine mw_if_ne (tgt := 195) dX9_two_188 rfl (fun c33 => ?_) (fun c33 => ?_)
    · rw [if_neg c33] at r38
      refine mw_iconst (v := 1) dX9_two_195 (by decide) ?_
      refine mw_goto (tgt := 200) dX9_two_196 rfl ?_
      obtain ⟨rfl, rfl⟩ := y1 r38
      exact MW.sub (subL_n (subL_n (subL_n subL_nil))) J138
    · rw [if_pos c33] at r38
      refine mw_iload_n (x := v2) dX9_two_191 rfl ?_
      refine mw_if_eq (tgt := 199) dX9_two_192 rfl (fun c35 => ?_) (fun c35 => ?_)
      · rw [if_pos c35] at r38
        refine mw_iconst (v := 0) dX9_two_199 (by decide) ?_
        obtain ⟨rfl, rfl⟩ := y1 r38
        exact MW.sub (subL_n (subL_n (subL_n subL_nil))) J138
      · rw [if_neg c35] at r38
        refine mw_iconst (v := 1) dX9_two_195 (by decide) ?_
        refine mw_goto (tgt := 200) dX9_two_196 rfl ?_
        obtain ⟨rfl, rfl⟩ := y1 r38
        exact MW.sub (subL_n (subL_n (subL_n subL_nil))) J138
  rw [if_neg c135] at hf
  by_cases c135 : v0 = 40
  · rw [if_pos c135] at hf
    refine ml_tableIn (v := 40) (tgt := 187) dX9_two_1 c135 (by decide) (by decide) rfl rfl ?_
    refine mw_iload_n (x := v1) dX9_two_187 rfl ?_
    obtain ⟨w42, h43, r44, hf⟩ := ob1 hf
    have J139 : MW E m_X9_two (d + 0) mc ms 200 [none, none, none] [vi w42] h43 K := by
      obtain ⟨rfl, rfl⟩ := y1 hf
      exact mw_ireturn dX9_two_200 rfl rfl hk
    refine mw_if_ne (tgt := 195) dX9_two_188 rfl (fun c39 => ?_) (fun c39 => ?_)
    · rw [if_neg c39] at r44
      refine mw_iconst (v := 1) dX9_two_195 (by decide) ?_
      refine mw_goto (tgt := 200) dX9_two_196 rfl ?_
      obtain ⟨rfl, rfl⟩ := y1 r44
      exact MW.sub (subL_n (subL_n (subL_n subL_nil))) J139
    · rw [if_pos c39] at r44
      refine mw_iload_n (x := v2) dX9_two_191 rfl ?_
      refine mw_if_eq (tgt := 199) dX9_two_192 rfl (fun c41 => ?_) (fun c41 => ?_)
      · rw [if_pos c41] at r44
        refine mw_iconst (v := 0) dX9_two_199 (by decide) ?_
        obtain ⟨rfl, rfl⟩ := y1 r44
        exact MW.sub (subL_n (subL_n (subL_n subL_nil))) J139
      · rw [if_neg c41] at r44
        refine mw_iconst (v := 1) dX9_two_195 (by decide) ?_
        refine mw_goto (tgt := 200) dX9_two_196 rfl ?_
        obtain ⟨rfl, rfl⟩ := y1 r44
        exact MW.sub (subL_n (subL_n (subL_n subL_nil))) J139
  rw [if_neg c135] at hf
  by_cases c135 : v0 = 41
  · rw [if_pos c135] at hf
    refine ml_tableIn (v := 41) (tgt := 187) dX9_two_1 c135 (by decide) (by decide) rfl rfl ?_
    refine mw_iload_n (x := v1) dX9_two_187 rfl ?_
    obtain ⟨w48, h49, r50, hf⟩ := ob1 hf
    have J140 : MW E m_X9_two (d + 0) mc ms 200 [none, none, none] [vi w48] h49 K := by
      obtain ⟨rfl, rfl⟩ := y1 hf
      exact mw_ireturn dX9_two_200 rfl rfl hk
    refine mw_if_ne (tgt := 195) dX9_two_188 rfl (fun c45 => ?_) (fun c45 => ?_)
    · rw [if_neg c45] at r50
      refine mw_iconst (v := 1) dX9_two_195 (by decide) ?_
      refine mw_goto (tgt := 200) dX9_two_196 rfl ?_
      obtain ⟨rfl, rfl⟩ := y1 r50
      exact MW.sub (subL_n (subL_n (subL_n subL_nil))) J140
    · rw [if_pos c45] at r50
      refine mw_iload_n (x := v2) dX9_two_191 rfl ?_
      refine mw_if_eq (tgt := 199) dX9_two_192 rfl (fun c47 => ?_) (fun c47 => ?_)
      · rw [if_pos c47] at r50
        refine mw_iconst (v := 0) dX9_two_199 (by decide) ?_
        obtain ⟨rfl, rfl⟩ := y1 r50
        exact MW.sub (subL_n (subL_n (subL_n subL_nil))) J140
      · rw [if_neg c47] at r50
        refine mw_iconst (v := 1) dX9_two_195 (by decide) ?_
        refine mw_goto (tgt := 200) dX9_two_196 rfl ?_
        obtain ⟨rfl, rfl⟩ := y1 r50
        exact MW.sub (subL_n (subL_n (subL_n subL_nil))) J140
  rw [if_neg c135] at hf
  by_cases c135 : v0 = 42
  · rw [if_pos c135] at hf
    refine ml_tableIn (v := 42) (tgt := 124) dX9_two_1 c135 (by decide) (by decide) rfl rfl ?_
    refine mw_iload_n (x := v1) dX9_two_124 rfl ?_
    refine mw_iload_n (x := v2) dX9_two_125 rfl ?_
    refine mw_imul dX9_two_126 ?_
    obtain ⟨rfl, rfl⟩ := y1 hf
    exact mw_ireturn dX9_two_127 rfl rfl hk
  rw [if_neg c135] at hf
  by_cases c135 : v0 = 43
  · rw [if_pos c135] at hf
    refine ml_tableIn (v := 43) (tgt := 116) dX9_two_1 c135 (by decide) (by decide) rfl rfl ?_
    refine mw_iload_n (x := v1) dX9_two_116 rfl ?_
    refine mw_iload_n (x := v2) dX9_two_117 rfl ?_
    refine mw_iadd dX9_two_118 ?_
    obtain ⟨rfl, rfl⟩ := y1 hf
    exact mw_ireturn dX9_two_119 rfl rfl hk
  rw [if_neg c135] at hf
  by_cases c135 : v0 = 44
  · rw [if_pos c135] at hf
    refine ml_tableIn (v := 44) (tgt := 187) dX9_two_1 c135 (by decide) (by decide) rfl rfl ?_
    refine mw_iload_n (x := v1) dX9_two_187 rfl ?_
    obtain ⟨w54, h55, r56, hf⟩ := ob1 hf
    have J141 : MW E m_X9_two (d + 0) mc ms 200 [none, none, none] [vi w54] h55 K := by
      obtain ⟨rfl, rfl⟩ := y1 hf
      exact mw_ireturn dX9_two_200 rfl rfl hk
    refine mw_if_ne (tgt := 195) dX9_two_188 rfl (fun c51 => ?_) (fun c51 => ?_)
    · rw [if_neg c51] at r56
      refine mw_iconst (v := 1) dX9_two_195 (by decide) ?_
      refine mw_goto (tgt := 200) dX9_two_196 rfl ?_
      obtain ⟨rfl, rfl⟩ := y1 r56
      exact MW.sub (subL_n (subL_n (subL_n subL_nil))) J141
    · rw [if_pos c51] at r56
      refine mw_iload_n (x := v2) dX9_two_191 rfl ?_
      refine mw_if_eq (tgt := 199) dX9_two_192 rfl (fun c53 => ?_) (fun c53 => ?_)
      · rw [if_pos c53] at r56
        refine mw_iconst (v := 0) dX9_two_199 (by decide) ?_
        obtain ⟨rfl, rfl⟩ := y1 r56
        exact MW.sub (subL_n (subL_n (subL_n subL_nil))) J141
      · rw [if_neg c53] at r56
        refine mw_iconst (v := 1) dX9_two_195 (by decide) ?_
        refine mw_goto (tgt := 200) dX9_two_196 rfl ?_
        obtain ⟨rfl, rfl⟩ := y1 r56
        exact MW.sub (subL_n (subL_n (subL_n subL_nil))) J141
  rw [if_neg c135] at hf
  by_cases c135 : v0 = 45
  · rw [if_pos c135] at hf
    refine ml_tableIn (v := 45) (tgt := 120) dX9_two_1 c135 (by decide) (by decide) rfl rfl ?_
    refine mw_iload_n (x := v1) dX9_two_120 rfl ?_
    refine mw_iload_n (x := v2) dX9_two_121 rfl ?_
    refine mw_isub dX9_two_122 ?_
    obtain ⟨rfl, rfl⟩ := y1 hf
    exact mw_ireturn dX9_two_123 rfl rfl hk
  rw [if_neg c135] at hf
  by_cases c135 : v0 = 46
  · rw [if_pos c135] at hf
    refine ml_tableIn (v := 46) (tgt := 187) dX9_two_1 c135 (by decide) (by decide) rfl rfl ?_
    refine mw_iload_n (x := v1) dX9_two_187 rfl ?_
    obtain ⟨w60, h61, r62, hf⟩ := ob1 hf
    have J142 : MW E m_X9_two (d + 0) mc ms 200 [none, none, none] [vi w60] h61 K := by
      obtain ⟨rfl, rfl⟩ := y1 hf
      exact mw_ireturn dX9_two_200 rfl rfl hk
    refine mw_if_ne (tgt := 195) dX9_two_188 rfl (fun c57 => ?_) (fun c57 => ?_)
    · rw [if_neg c57] at r62
      refine mw_iconst (v := 1) dX9_two_195 (by decide) ?_
      refine mw_goto (tgt := 200) dX9_two_196 rfl ?_
      obtain ⟨rfl, rfl⟩ := y1 r62
      exact MW.sub (subL_n (subL_n (subL_n subL_nil))) J142
    · rw [if_pos c57] at r62
      refine mw_iload_n (x := v2) dX9_two_191 rfl ?_
      refine mw_if_eq (tgt := 199) dX9_two_192 rfl (fun c59 => ?_) (fun c59 => ?_)
      · rw [if_pos c59] at r62
        refine mw_iconst (v := 0) dX9_two_199 (by decide) ?_
        obtain ⟨rfl, rfl⟩ := y1 r62
        exact MW.sub (subL_n (subL_n (subL_n subL_nil))) J142
      · rw [if_neg c59] at r62
        refine mw_iconst (v := 1) dX9_two_195 (by decide) ?_
        refine mw_goto (tgt := 200) dX9_two_196 rfl ?_
        obtain ⟨rfl, rfl⟩ := y1 r62
        exact MW.sub (subL_n (subL_n (subL_n subL_nil))) J142
  rw [if_neg c135] at hf
  by_cases c135 : v0 = 47
  · rw [if_pos c135] at hf
    refine ml_tableIn (v := 47) (tgt := 128) dX9_two_1 c135 (by decide) (by decide) rfl rfl ?_
    refine mw_iload_n (x := v2) dX9_two_128 rfl ?_
    obtain ⟨w12, h13, r14, hf⟩ := ob1 hf
    have J143 : MW E m_X9_two (d + 0) mc ms 139 [none, none, none] [vi w12] h13 K := by
      obtain ⟨rfl, rfl⟩ := y1 hf
      exact mw_ireturn dX9_two_139 rfl rfl hk
    refine mw_if_ne (tgt := 136) dX9_two_129 rfl (fun c7 => ?_) (fun c7 => ?_)
    · rw [if_neg c7] at r14
      refine mw_iload_n (x := v1) dX9_two_136 rfl ?_
      refine mw_iload_n (x := v2) dX9_two_137 rfl ?_
      obtain ⟨x10, e11, r14⟩ := ob r14
      refine ml_idiv dX9_two_138 e11 ?_
      obtain ⟨rfl, rfl⟩ := y1 r14
      exact MW.sub (subL_n (subL_n (subL_n subL_nil))) J143
    · rw [if_pos c7] at r14
      refine mw_iconst (v := 0) dX9_two_132 (by decide) ?_
      refine mw_goto (tgt := 139) dX9_two_133 rfl ?_
      obtain ⟨rfl, rfl⟩ := y1 r14
      exact MW.sub (subL_n (subL_n (subL_n subL_nil))) J143
  rw [if_neg c135] at hf
  by_cases c135 : v0 = 48
  · rw [if_pos c135] at hf
    refine ml_tableIn (v := 48) (tgt := 187) dX9_two_1 c135 (by decide) (by decide) rfl rfl ?_
    refine mw_iload_n (x := v1) dX9_two_187 rfl ?_
    obtain ⟨w66, h67, r68, hf⟩ := ob1 hf
    have J144 : MW E m_X9_two (d + 0) mc ms 200 [none, none, none] [vi w66] h67 K := by
      obtain ⟨rfl, rfl⟩ := y1 hf
      exact mw_ireturn dX9_two_200 rfl rfl hk
    refine mw_if_ne (tgt := 195) dX9_two_188 rfl (fun c63 => ?_) (fun c63 => ?_)
    · rw [if_neg c63] at r68
      refine mw_iconst (v := 1) dX9_two_195 (by decide) ?_
      refine mw_goto (tgt := 200) dX9_two_196 rfl ?_
      obtain ⟨rfl, rfl⟩ := y1 r68
      exact MW.sub (subL_n (subL_n (subL_n subL_nil))) J144
    · rw [if_pos c63] at r68
      refine mw_iload_n (x := v2) dX9_two_191 rfl ?_
      refine mw_if_eq (tgt := 199) dX9_two_192 rfl (fun c65 => ?_) (fun c65 => ?_)
      · rw [if_pos c65] at r68
        refine mw_iconst (v := 0) dX9_two_199 (by decide) ?_
        obtain ⟨rfl, rfl⟩ := y1 r68
        exact MW.sub (subL_n (subL_n (subL_n subL_nil))) J144
      · rw [if_neg c65] at r68
        refine mw_iconst (v := 1) dX9_two_195 (by decide) ?_
        refine mw_goto (tgt := 200) dX9_two_196 rfl ?_
        obtain ⟨rfl, rfl⟩ := y1 r68
        exact MW.sub (subL_n (subL_n (subL_n subL_nil))) J144
  rw [if_neg c135] at hf
  by_cases c135 : v0 = 49
  · rw [if_pos c135] at hf
    refine ml_tableIn (v := 49) (tgt := 187) dX9_two_1 c135 (by decide) (by decide) rfl rfl ?_
    refine mw_iload_n (x := v1) dX9_two_187 rfl ?_
    obtain ⟨w72, h73, r74, hf⟩ := ob1 hf
    have J145 : MW E m_X9_two (d + 0) mc ms 200 [none, none, none] [vi w72] h73 K := by
      obtain ⟨rfl, rfl⟩ := y1 hf
      exact mw_ireturn dX9_two_200 rfl rfl hk
    refine mw_if_ne (tgt := 195) dX9_two_188 rfl (fun c69 => ?_) (fun c69 => ?_)
    · rw [if_neg c69] at r74
      refine mw_iconst (v := 1) dX9_two_195 (by decide) ?_
      refine mw_goto (tgt := 200) dX9_two_196 rfl ?_
      obtain ⟨rfl, rfl⟩ := y1 r74
      exact MW.sub (subL_n (subL_n (subL_n subL_nil))) J145
    · rw [if_pos c69] at r74
      refine mw_iload_n (x := v2) dX9_two_191 rfl ?_
      refine mw_if_eq (tgt := 199) dX9_two_192 rfl (fun c71 => ?_) (fun c71 => ?_)
      · rw [if_pos c71] at r74
        refine mw_iconst (v := 0) dX9_two_199 (by decide) ?_
        obtain ⟨rfl, rfl⟩ := y1 r74
        exact MW.sub (subL_n (subL_n (subL_n subL_nil))) J145
      · rw [if_neg c71] at r74
        refine mw_iconst (v := 1) dX9_two_195 (by decide) ?_
        refine mw_goto (tgt := 200) dX9_two_196 rfl ?_
        obtain ⟨rfl, rfl⟩ := y1 r74
        exact MW.sub (subL_n (subL_n (subL_n subL_nil))) J145
  rw [if_neg c135] at hf
  by_cases c135 : v0 = 50
  · rw [if_pos c135] at hf
    refine ml_tableIn (v := 50) (tgt := 187) dX9_two_1 c135 (by decide) (by decide) rfl rfl ?_
    refine mw_iload_n (x := v1) dX9_two_187 rfl ?_
    obtain ⟨w78, h79, r80, hf⟩ := ob1 hf
    have J146 : MW E m_X9_two (d + 0) mc ms 200 [none, none, none] [vi w78] h79 K := by
      obtain ⟨rfl, rfl⟩ := y1 hf
      exact mw_ireturn dX9_two_200 rfl rfl hk
    refine mw_if_ne (tgt := 195) dX9_two_188 rfl (fun c75 => ?_) (fun c75 => ?_)
    · rw [if_neg c75] at r80
      refine mw_iconst (v := 1) dX9_two_195 (by decide) ?_
      refine mw_goto (tgt := 200) dX9_two_196 rfl ?_
      obtain ⟨rfl, rfl⟩ := y1 r80
      exact MW.sub (subL_n (subL_n (subL_n subL_nil))) J146
    · rw [if_pos c75] at r80
      refine mw_iload_n (x := v2) dX9_two_191 rfl ?_
      refine mw_if_eq (tgt := 199) dX9_two_192 rfl (fun c77 => ?_) (fun c77 => ?_)
      · rw [if_pos c77] at r80
        refine mw_iconst (v := 0) dX9_two_199 (by decide) ?_
        obtain ⟨rfl, rfl⟩ := y1 r80
        exact MW.sub (subL_n (subL_n (subL_n subL_nil))) J146
      · rw [if_neg c77] at r80
        refine mw_iconst (v := 1) dX9_two_195 (by decide) ?_
        refine mw_goto (tgt := 200) dX9_two_196 rfl ?_
        obtain ⟨rfl, rfl⟩ := y1 r80
        exact MW.sub (subL_n (subL_n (subL_n subL_nil))) J146
  rw [if_neg c135] at hf
  by_cases c135 : v0 = 51
  · rw [if_pos c135] at hf
    refine ml_tableIn (v := 51) (tgt := 187) dX9_two_1 c135 (by decide) (by decide) rfl rfl ?_
    refine mw_iload_n (x := v1) dX9_two_187 rfl ?_
    obtain ⟨w84, h85, r86, hf⟩ := ob1 hf
    have J147 : MW E m_X9_two (d + 0) mc ms 200 [none, none, none] [vi w84] h85 K := by
      obtain ⟨rfl, rfl⟩ := y1 hf
      exact mw_ireturn dX9_two_200 rfl rfl hk
    refine mw_if_ne (tgt := 195) dX9_two_188 rfl (fun c81 => ?_) (fun c81 => ?_)
    · rw [if_neg c81] at r86
      refine mw_iconst (v := 1) dX9_two_195 (by decide) ?_
      refine mw_goto (tgt := 200) dX9_two_196 rfl ?_
      obtain ⟨rfl, rfl⟩ := y1 r86
      exact MW.sub (subL_n (subL_n (subL_n subL_nil))) J147
    · rw [if_pos c81] at r86
      refine mw_iload_n (x := v2) dX9_two_191 rfl ?_
      refine mw_if_eq (tgt := 199) dX9_two_192 rfl (fun c83 => ?_) (fun c83 => ?_)
      · rw [if_pos c83] at r86
        refine mw_iconst (v := 0) dX9_two_199 (by decide) ?_
        obtain ⟨rfl, rfl⟩ := y1 r86
        exact MW.sub (subL_n (subL_n (subL_n subL_nil))) J147
      · rw [if_neg c83] at r86
        refine mw_iconst (v := 1) dX9_two_195 (by decide) ?_
        refine mw_goto (tgt := 200) dX9_two_196 rfl ?_
        obtain ⟨rfl, rfl⟩ := y1 r86
        exact MW.sub (subL_n (subL_n (subL_n subL_nil))) J147
  rw [if_neg c135] at hf
  by_cases c135 : v0 = 52
  · rw [if_pos c135] at hf
    refine ml_tableIn (v := 52) (tgt := 187) dX9_two_1 c135 (by decide) (by decide) rfl rfl ?_
    refine mw_iload_n (x := v1) dX9_two_187 rfl ?_
    obtain ⟨w90, h91, r92, hf⟩ := ob1 hf
    have J148 : MW E m_X9_two (d + 0) mc ms 200 [none, none, none] [vi w90] h91 K := by
      obtain ⟨rfl, rfl⟩ := y1 hf
      exact mw_ireturn dX9_two_200 rfl rfl hk
    refine mw_if_ne (tgt := 195) dX9_two_188 rfl (fun c87 => ?_) (fun c87 => ?_)
    · rw [if_neg c87] at r92
      refine mw_iconst (v := 1) dX9_two_195 (by decide) ?_
      refine mw_goto (tgt := 200) dX9_two_196 rfl ?_
      obtain ⟨rfl, rfl⟩ := y1 r92
      exact MW.sub (subL_n (subL_n (subL_n subL_nil))) J148
    · rw [if_pos c87] at r92
      refine mw_iload_n (x := v2) dX9_two_191 rfl ?_
      refine mw_if_eq (tgt := 199) dX9_two_192 rfl (fun c89 => ?_) (fun c89 => ?_)
      · rw [if_pos c89] at r92
        refine mw_iconst (v := 0) dX9_two_199 (by decide) ?_
        obtain ⟨rfl, rfl⟩ := y1 r92
        exact MW.sub (subL_n (subL_n (subL_n subL_nil))) J148
      · rw [if_neg c89] at r92
        refine mw_iconst (v := 1) dX9_two_195 (by decide) ?_
        refine mw_goto (tgt := 200) dX9_two_196 rfl ?_
        obtain ⟨rfl, rfl⟩ := y1 r92
        exact MW.sub (subL_n (subL_n (subL_n subL_nil))) J148
  rw [if_neg c135] at hf
  by_cases c135 : v0 = 53
  · rw [if_pos c135] at hf
    refine ml_tableIn (v := 53) (tgt := 187) dX9_two_1 c135 (by decide) (by decide) rfl rfl ?_
    refine mw_iload_n (x := v1) dX9_two_187 rfl ?_
    obtain ⟨w96, h97, r98, hf⟩ := ob1 hf
    have J149 : MW E m_X9_two (d + 0) mc ms 200 [none, none, none] [vi w96] h97 K := by
      obtain ⟨rfl, rfl⟩ := y1 hf
      exact mw_ireturn dX9_two_200 rfl rfl hk
    refine mw_if_ne (tgt := 195) dX9_two_188 rfl (fun c93 => ?_) (fun c93 => ?_)
    · rw [if_neg c93] at r98
      refine mw_iconst (v := 1) dX9_two_195 (by decide) ?_
      refine mw_goto (tgt := 200) dX9_two_196 rfl ?_
      obtain ⟨rfl, rfl⟩ := y1 r98
      exact MW.sub (subL_n (subL_n (subL_n subL_nil))) J149
    · rw [if_pos c93] at r98
      refine mw_iload_n (x := v2) dX9_two_191 rfl ?_
      refine mw_if_eq (tgt := 199) dX9_two_192 rfl (fun c95 => ?_) (fun c95 => ?_)
      · rw [if_pos c95] at r98
        refine mw_iconst (v := 0) dX9_two_199 (by decide) ?_
        obtain ⟨rfl, rfl⟩ := y1 r98
        exact MW.sub (subL_n (subL_n (subL_n subL_nil))) J149
      · rw [if_neg c95] at r98
        refine mw_iconst (v := 1) dX9_two_195 (by decide) ?_
        refine mw_goto (tgt := 200) dX9_two_196 rfl ?_
        obtain ⟨rfl, rfl⟩ := y1 r98
        exact MW.sub (subL_n (subL_n (subL_n subL_nil))) J149
  rw [if_neg c135] at hf
  by_cases c135 : v0 = 54
  · rw [if_pos c135] at hf
    refine ml_tableIn (v := 54) (tgt := 187) dX9_two_1 c135 (by decide) (by decide) rfl rfl ?_
    refine mw_iload_n (x := v1) dX9_two_187 rfl ?_
    obtain ⟨w102, h103, r104, hf⟩ := ob1 hf
    have J150 : MW E m_X9_two (d + 0) mc ms 200 [none, none, none] [vi w102] h103 K := by
      obtain ⟨rfl, rfl⟩ := y1 hf
      exact mw_ireturn dX9_two_200 rfl rfl hk
    refine mw_if_ne (tgt := 195) dX9_two_188 rfl (fun c99 => ?_) (fun c99 => ?_)
    · rw [if_neg c99] at r104
      refine mw_iconst (v := 1) dX9_two_195 (by decide) ?_
      refine mw_goto (tgt := 200) dX9_two_196 rfl ?_
      obtain ⟨rfl, rfl⟩ := y1 r104
      exact MW.sub (subL_n (subL_n (subL_n subL_nil))) J150
    · rw [if_pos c99] at r104
      refine mw_iload_n (x := v2) dX9_two_191 rfl ?_
      refine mw_if_eq (tgt := 199) dX9_two_192 rfl (fun c101 => ?_) (fun c101 => ?_)
      · rw [if_pos c101] at r104
        refine mw_iconst (v := 0) dX9_two_199 (by decide) ?_
        obtain ⟨rfl, rfl⟩ := y1 r104
        exact MW.sub (subL_n (subL_n (subL_n subL_nil))) J150
      · rw [if_neg c101] at r104
        refine mw_iconst (v := 1) dX9_two_195 (by decide) ?_
        refine mw_goto (tgt := 200) dX9_two_196 rfl ?_
        obtain ⟨rfl, rfl⟩ := y1 r104
        exact MW.sub (subL_n (subL_n (subL_n subL_nil))) J150
  rw [if_neg c135] at hf
  by_cases c135 : v0 = 55
  · rw [if_pos c135] at hf
    refine ml_tableIn (v := 55) (tgt := 187) dX9_two_1 c135 (by decide) (by decide) rfl rfl ?_
    refine mw_iload_n (x := v1) dX9_two_187 rfl ?_
    obtain ⟨w108, h109, r110, hf⟩ := ob1 hf
    have J151 : MW E m_X9_two (d + 0) mc ms 200 [none, none, none] [vi w108] h109 K := by
      obtain ⟨rfl, rfl⟩ := y1 hf
      exact mw_ireturn dX9_two_200 rfl rfl hk
    refine mw_if_ne (tgt := 195) dX9_two_188 rfl (fun c105 => ?_) (fun c105 => ?_)
    · rw [if_neg c105] at r110
      refine mw_iconst (v := 1) dX9_two_195 (by decide) ?_
      refine mw_goto (tgt := 200) dX9_two_196 rfl ?_
      obtain ⟨rfl, rfl⟩ := y1 r110
      exact MW.sub (subL_n (subL_n (subL_n subL_nil))) J151
    · rw [if_pos c105] at r110
      refine mw_iload_n (x := v2) dX9_two_191 rfl ?_
      refine mw_if_eq (tgt := 199) dX9_two_192 rfl (fun c107 => ?_) (fun c107 => ?_)
      · rw [if_pos c107] at r110
        refine mw_iconst (v := 0) dX9_two_199 (by decide) ?_
        obtain ⟨rfl, rfl⟩ := y1 r110
        exact MW.sub (subL_n (subL_n (subL_n subL_nil))) J151
      · rw [if_neg c107] at r110
        refine mw_iconst (v := 1) dX9_two_195 (by decide) ?_
        refine mw_goto (tgt := 200) dX9_two_196 rfl ?_
        obtain ⟨rfl, rfl⟩ := y1 r110
        exact MW.sub (subL_n (subL_n (subL_n subL_nil))) J151
  rw [if_neg c135] at hf
  by_cases c135 : v0 = 56
  · rw [if_pos c135] at hf
    refine ml_tableIn (v := 56) (tgt := 187) dX9_two_1 c135 (by decide) (by decide) rfl rfl ?_
    refine mw_iload_n (x := v1) dX9_two_187 rfl ?_
    obtain ⟨w114, h115, r116, hf⟩ := ob1 hf
    have J152 : MW E m_X9_two (d + 0) mc ms 200 [none, none, none] [vi w114] h115 K := by
      obtain ⟨rfl, rfl⟩ := y1 hf
      exact mw_ireturn dX9_two_200 rfl rfl hk
    refine mw_if_ne (tgt := 195) dX9_two_188 rfl (fun c111 => ?_) (fun c111 => ?_)
    · rw [if_neg c111] at r116
      refine mw_iconst (v := 1) dX9_two_195 (by decide) ?_
      refine mw_goto (tgt := 200) dX9_two_196 rfl ?_
      obtain ⟨rfl, rfl⟩ := y1 r116
      exact MW.sub (subL_n (subL_n (subL_n subL_nil))) J152
    · rw [if_pos c111] at r116
      refine mw_iload_n (x := v2) dX9_two_191 rfl ?_
      refine mw_if_eq (tgt := 199) dX9_two_192 rfl (fun c113 => ?_) (fun c113 => ?_)
      · rw [if_pos c113] at r116
        refine mw_iconst (v := 0) dX9_two_199 (by decide) ?_
        obtain ⟨rfl, rfl⟩ := y1 r116
        exact MW.sub (subL_n (subL_n (subL_n subL_nil))) J152
      · rw [if_neg c113] at r116
        refine mw_iconst (v := 1) dX9_two_195 (by decide) ?_
        refine mw_goto (tgt := 200) dX9_two_196 rfl ?_
        obtain ⟨rfl, rfl⟩ := y1 r116
        exact MW.sub (subL_n (subL_n (subL_n subL_nil))) J152
  rw [if_neg c135] at hf
  by_cases c135 : v0 = 57
  · rw [if_pos c135] at hf
    refine ml_tableIn (v := 57) (tgt := 187) dX9_two_1 c135 (by decide) (by decide) rfl rfl ?_
    refine mw_iload_n (x := v1) dX9_two_187 rfl ?_
    obtain ⟨w120, h121, r122, hf⟩ := ob1 hf
    have J153 : MW E m_X9_two (d + 0) mc ms 200 [none, none, none] [vi w120] h121 K := by
      obtain ⟨rfl, rfl⟩ := y1 hf
      exact mw_ireturn dX9_two_200 rfl rfl hk
    refine mw_if_ne (tgt := 195) dX9_two_188 rfl (fun c117 => ?_) (fun c117 => ?_)
    · rw [if_neg c117] at r122
      refine mw_iconst (v := 1) dX9_two_195 (by decide) ?_
      refine mw_goto (tgt := 200) dX9_two_196 rfl ?_
      obtain ⟨rfl, rfl⟩ := y1 r122
      exact MW.sub (subL_n (subL_n (subL_n subL_nil))) J153
    · rw [if_pos c117] at r122
      refine mw_iload_n (x := v2) dX9_two_191 rfl ?_
      refine mw_if_eq (tgt := 199) dX9_two_192 rfl (fun c119 => ?_) (fun c119 => ?_)
      · rw [if_pos c119] at r122
        refine mw_iconst (v := 0) dX9_two_199 (by decide) ?_
        obtain ⟨rfl, rfl⟩ := y1 r122
        exact MW.sub (subL_n (subL_n (subL_n subL_nil))) J153
      · rw [if_neg c119] at r122
        refine mw_iconst (v := 1) dX9_two_195 (by decide) ?_
        refine mw_goto (tgt := 200) dX9_two_196 rfl ?_
        obtain ⟨rfl, rfl⟩ := y1 r122
        exact MW.sub (subL_n (subL_n (subL_n subL_nil))) J153
  rw [if_neg c135] at hf
  by_cases c135 : v0 = 58
  · rw [if_pos c135] at hf
    refine ml_tableIn (v := 58) (tgt := 187) dX9_two_1 c135 (by decide) (by decide) rfl rfl ?_
    refine mw_iload_n (x := v1) dX9_two_187 rfl ?_
    obtain ⟨w126, h127, r128, hf⟩ := ob1 hf
    have J154 : MW E m_X9_two (d + 0) mc ms 200 [none, none, none] [vi w126] h127 K := by
      obtain ⟨rfl, rfl⟩ := y1 hf
      exact mw_ireturn dX9_two_200 rfl rfl hk
    refine mw_if_ne (tgt := 195) dX9_two_188 rfl (fun c123 => ?_) (fun c123 => ?_)
    · rw [if_neg c123] at r128
      refine mw_iconst (v := 1) dX9_two_195 (by decide) ?_
      refine mw_goto (tgt := 200) dX9_two_196 rfl ?_
      obtain ⟨rfl, rfl⟩ := y1 r128
      exact MW.sub (subL_n (subL_n (subL_n subL_nil))) J154
    · rw [if_pos c123] at r128
      refine mw_iload_n (x := v2) dX9_two_191 rfl ?_
      refine mw_if_eq (tgt := 199) dX9_two_192 rfl (fun c125 => ?_) (fun c125 => ?_)
      · rw [if_pos c125] at r128
        refine mw_iconst (v := 0) dX9_two_199 (by decide) ?_
        obtain ⟨rfl, rfl⟩ := y1 r128
        exact MW.sub (subL_n (subL_n (subL_n subL_nil))) J154
      · rw [if_neg c125] at r128
        refine mw_iconst (v := 1) dX9_two_195 (by decide) ?_
        refine mw_goto (tgt := 200) dX9_two_196 rfl ?_
        obtain ⟨rfl, rfl⟩ := y1 r128
        exact MW.sub (subL_n (subL_n (subL_n subL_nil))) J154
  rw [if_neg c135] at hf
  by_cases c135 : v0 = 59
  · rw [if_pos c135] at hf
    refine ml_tableIn (v := 59) (tgt := 187) dX9_two_1 c135 (by decide) (by decide) rfl rfl ?_
    refine mw_iload_n (x := v1) dX9_two_187 rfl ?_
    obtain ⟨w132, h133, r134, hf⟩ := ob1 hf
    have J155 : MW E m_X9_two (d + 0) mc ms 200 [none, none, none] [vi w132] h133 K := by
      obtain ⟨rfl, rfl⟩ := y1 hf
      exact mw_ireturn dX9_two_200 rfl rfl hk
    refine mw_if_ne (tgt := 195) dX9_two_188 rfl (fun c129 => ?_) (fun c129 => ?_)
    · rw [if_neg c129] at r134
      refine mw_iconst (v := 1) dX9_two_195 (by decide) ?_
      refine mw_goto (tgt := 200) dX9_two_196 rfl ?_
      obtain ⟨rfl, rfl⟩ := y1 r134
      exact MW.sub (subL_n (subL_n (subL_n subL_nil))) J155
    · rw [if_pos c129] at r134
      refine mw_iload_n (x := v2) dX9_two_191 rfl ?_
      refine mw_if_eq (tgt := 199) dX9_two_192 rfl (fun c131 => ?_) (fun c131 => ?_)
      · rw [if_pos c131] at r134
        refine mw_iconst (v := 0) dX9_two_199 (by decide) ?_
        obtain ⟨rfl, rfl⟩ := y1 r134
        exact MW.sub (subL_n (subL_n (subL_n subL_nil))) J155
      · rw [if_neg c131] at r134
        refine mw_iconst (v := 1) dX9_two_195 (by decide) ?_
        refine mw_goto (tgt := 200) dX9_two_196 rfl ?_
        obtain ⟨rfl, rfl⟩ := y1 r134
        exact MW.sub (subL_n (subL_n (subL_n subL_nil))) J155
  rw [if_neg c135] at hf
  by_cases c135 : v0 = 60
  · rw [if_pos c135] at hf
    refine ml_tableIn (v := 60) (tgt := 140) dX9_two_1 c135 (by decide) (by decide) rfl rfl ?_
    refine mw_iload_n (x := v1) dX9_two_140 rfl ?_
    refine mw_iload_n (x := v2) dX9_two_141 rfl ?_
    obtain ⟨w16, h17, r18, hf⟩ := ob1 hf
    have J156 : MW E m_X9_two (d + 0) mc ms 150 [none, none, none] [vi w16] h17 K := by
      obtain ⟨rfl, rfl⟩ := y1 hf
      exact mw_ireturn dX9_two_150 rfl rfl hk
    refine mw_icmp_ge (tgt := 149) dX9_two_142 rfl (fun c15 => ?_) (fun c15 => ?_)
    · rw [if_pos c15] at r18
      refine mw_iconst (v := 0) dX9_two_149 (by decide) ?_
      obtain ⟨rfl, rfl⟩ := y1 r18
      exact MW.sub (subL_n (subL_n (subL_n subL_nil))) J156
    · rw [if_neg c15] at r18
      refine mw_iconst (v := 1) dX9_two_145 (by decide) ?_
      refine mw_goto (tgt := 150) dX9_two_146 rfl ?_
      obtain ⟨rfl, rfl⟩ := y1 r18
      exact MW.sub (subL_n (subL_n (subL_n subL_nil))) J156
  rw [if_neg c135] at hf
  by_cases c135 : v0 = 61
  · rw [if_pos c135] at hf
    refine ml_tableIn (v := 61) (tgt := 162) dX9_two_1 c135 (by decide) (by decide) rfl rfl ?_
    refine mw_iload_n (x := v1) dX9_two_162 rfl ?_
    refine mw_iload_n (x := v2) dX9_two_163 rfl ?_
    obtain ⟨w20, h21, r22, hf⟩ := ob1 hf
    have J157 : MW E m_X9_two (d + 0) mc ms 172 [none, none, none] [vi w20] h21 K := by
      obtain ⟨rfl, rfl⟩ := y1 hf
      exact mw_ireturn dX9_two_172 rfl rfl hk
    refine mw_icmp_ne (tgt := 171) dX9_two_164 rfl (fun c19 => ?_) (fun c19 => ?_)
    · rw [if_neg c19] at r22
      refine mw_iconst (v := 0) dX9_two_171 (by decide) ?_
      obtain ⟨rfl, rfl⟩ := y1 r22
      exact MW.sub (subL_n (subL_n (subL_n subL_nil))) J157
    · rw [if_pos c19] at r22
      refine mw_iconst (v := 1) dX9_two_167 (by decide) ?_
      refine mw_goto (tgt := 172) dX9_two_168 rfl ?_
      obtain ⟨rfl, rfl⟩ := y1 r22
      exact MW.sub (subL_n (subL_n (subL_n subL_nil))) J157
  rw [if_neg c135] at hf
  by_cases c135 : v0 = 62
  · rw [if_pos c135] at hf
    refine ml_tableIn (v := 62) (tgt := 151) dX9_two_1 c135 (by decide) (by decide) rfl rfl ?_
    refine mw_iload_n (x := v1) dX9_two_151 rfl ?_
    refine mw_iload_n (x := v2) dX9_two_152 rfl ?_
    obtain ⟨w24, h25, r26, hf⟩ := ob1 hf
    have J158 : MW E m_X9_two (d + 0) mc ms 161 [none, none, none] [vi w24] h25 K := by
      obtain ⟨rfl, rfl⟩ := y1 hf
      exact mw_ireturn dX9_two_161 rfl rfl hk
    refine mw_icmp_le (tgt := 160) dX9_two_153 rfl (fun c23 => ?_) (fun c23 => ?_)
    · rw [if_pos c23] at r26
      refine mw_iconst (v := 0) dX9_two_160 (by decide) ?_
      obtain ⟨rfl, rfl⟩ := y1 r26
      exact MW.sub (subL_n (subL_n (subL_n subL_nil))) J158
    · rw [if_neg c23] at r26
      refine mw_iconst (v := 1) dX9_two_156 (by decide) ?_
      refine mw_goto (tgt := 161) dX9_two_157 rfl ?_
      obtain ⟨rfl, rfl⟩ := y1 r26
      exact MW.sub (subL_n (subL_n (subL_n subL_nil))) J158
  rw [if_neg c135] at hf
  cases hf
def f_X9_holds_L22 : Nat → Nat → Int32 → Int32 → Int32 → Int32 → Int32 → Hp → Option ((Hp))
  | 0, _, _, _, _, _, _, _ => none
  | n + 1, a0, v1, v2, v3, v4, v5, h =>
    (getQ h (some a0) 8 17).bind fun x5 =>
    (rdI h x5 10 (((11 : Int32) * v1) + v2)).bind fun x7 =>
    if (((900 : Int32) * v1) + x7) ≤ v5 then
      some h
    else
      (getQ h (some a0) 8 18).bind fun x10 =>
      (rdI h x10 10 v5).bind fun x12 =>
      b1 ((if x12 = (126 : Int32) then
          (getQ h (some a0) 8 22).bind fun x91 =>
          (getQ h (some a0) 8 22).bind fun x93 =>
          (rdI h x93 10 (v4 - (1 : Int32))).bind fun x95 =>
          b1 ((if x95 = (0 : Int32) then
              some (1, h)
            else
              some (0, h) : Option (Int32 × Hp))) fun w98 h99 =>
          (wrI h99 x91 (v4 - (1 : Int32)) w98).bind fun h101 =>
          some (v4, h101)
        else
          b1 (f_X9_isLetter x12 h) fun x61 h59 =>
          if x61 = (0 : Int32) then
            (getQ h59 (some a0) 8 22).bind fun x63 =>
            (getQ h59 (some a0) 8 22).bind fun x65 =>
            (rdI h59 x65 10 ((v4 + (-1)) - (1 : Int32))).bind fun x67 =>
            (getQ h59 (some a0) 8 22).bind fun x69 =>
            (rdI h59 x69 10 (v4 + (-1))).bind fun x71 =>
            b1 (f_X9_two x12 x67 x71 h59) fun x75 h73 =>
            (wrI h73 x63 ((v4 + (-1)) - (1 : Int32)) x75).bind fun h76 =>
            some ((v4 + (-1)), h76)
          else
            (getQ h59 (some a0) 8 22).bind fun x78 =>
            (getQ h59 (some a0) 8 19).bind fun x80 =>
            (rdI h59 x80 10 v5).bind fun x82 =>
            (rc h59 (some a0) 8).bind fun g86 =>
            b1 (f_X9_term g86 x12 x82 v3 h59) fun x88 h84 =>
            (wrI h84 x78 v4 x88).bind fun h89 =>
            some ((v4 + 1), h89) : Option (Int32 × Hp))) fun w103 h104 =>
      f_X9_holds_L22 n a0 v1 v2 v3 w103 (v5 + 1) h104
def f_X9_holds (a0 : Nat) (v1 : Int32) (v2 : Int32) (v3 : Int32) (h : Hp) : Option (Int32 × Hp) :=
  (getQ h (some a0) 8 16).bind fun x1 =>
  (rdI h x1 10 (((11 : Int32) * v1) + v2)).bind fun x3 =>
  (f_X9_holds_L22 fu a0 v1 v2 v3 0 (((900 : Int32) * v1) + x3) h).bind fun h106 =>
  (getQ h106 (some a0) 8 22).bind fun x107 =>
  (rdI h106 x107 10 0).bind fun x109 =>
  b1 ((if x109 = (0 : Int32) then
      some (0, h106)
    else
      some (1, h106) : Option (Int32 × Hp))) fun w112 h113 =>
  (zok w112).bind fun z115 =>
  some (w112, h113)
set_option maxHeartbeats 4000000 in
theorem tl_X9_holds_22 (E : En) (d : Nat) {mc ms : Nat} {K : Option Vv → Hp → Prop} : ∀ (n : Nat) (a0 : Nat) (v1 : Int32) (v2 : Int32) (v3 : Int32) (v4 : Int32) (v5 : Int32) (h : Hp) (hz : Hp), f_X9_holds_L22 n a0 v1 v2 v3 v4 v5 h = some hz → MW E m_X9_holds (d + 2) mc ms 163 [some (vq (some a0)), none, none, none, none, none, none] [] hz K → MW E m_X9_holds (d + 2) mc ms 22 [some (vq (some a0)), some (vi v1), some (vi v2), some (vi v3), some (vi v4), some (vi v5), none] [] h K := by
  intro n
  induction n with
  | zero => intro a0 v1 v2 v3 v4 v5 h hz hf; exact nomatch (show none = some _ from hf)
  | succ n ih =>
    intro a0 v1 v2 v3 v4 v5 h hz hf hX163
    rw [f_X9_holds_L22] at hf
    refine mw_iload (x := v5) dX9_holds_22 rfl ?_
    refine mw_sipush (v := 900) dX9_holds_24 (by decide) ?_
    refine mw_iload_n (x := v1) dX9_holds_27 rfl ?_
    refine mw_imul dX9_holds_28 ?_
    refine mw_aload_n (x := (some a0)) dX9_holds_29 rfl ?_
    obtain ⟨x5, e6, hf⟩ := ob hf
    refine ml_getQ dX9_holds_30 fl_RX9_99 rfl e6 ?_
    refine mw_bipush (v := 11) dX9_holds_33 (by decide) ?_
    refine mw_iload_n (x := v1) dX9_holds_35 rfl ?_
    refine mw_imul dX9_holds_36 ?_
    refine mw_iload_n (x := v2) dX9_holds_37 rfl ?_
    refine mw_iadd dX9_holds_38 ?_
    obtain ⟨x7, e8, hf⟩ := ob hf
    refine ml_iald dX9_holds_39 e8 ?_
    refine mw_iadd dX9_holds_40 ?_
    refine mw_icmp_ge (tgt := 163) dX9_holds_41 rfl (fun c9 => ?_) (fun c9 => ?_)
    · rw [if_pos c9] at hf
      obtain rfl := y0 hf
      exact MW.sub (subL_s (subL_n (subL_n (subL_n (subL_n (subL_n (subL_n subL_nil))))))) hX163
    · rw [if_neg c9] at hf
      refine mw_aload_n (x := (some a0)) dX9_holds_44 rfl ?_
      obtain ⟨x10, e11, hf⟩ := ob hf
      refine ml_getQ dX9_holds_45 fl_RX9_102 rfl e11 ?_
      refine mw_iload (x := v5) dX9_holds_48 rfl ?_
      obtain ⟨x12, e13, hf⟩ := ob hf
      refine ml_iald dX9_holds_50 e13 ?_
      refine mw_istore dX9_holds_51 (by decide) rfl ?_
      refine mw_iload (x := x12) dX9_holds_53 rfl ?_
      refine mw_bipush (v := 126) dX9_holds_55 (by decide) ?_
      obtain ⟨w103, h104, r105, hf⟩ := ob1 hf
      have J119 : MW E m_X9_holds (d + 2) mc ms 157 [some (vq (some a0)), some (vi v1), some (vi v2), some (vi v3), some (vi w103), some (vi v5), none] [] h104 K := by
        refine mw_iinc (x := v5) (v := v5 + 1) dX9_holds_157 rfl rfl (by decide) rfl ?_
        refine mw_goto (tgt := 22) dX9_holds_160 rfl ?_
        exact MW.sub (subL_s (subL_s (subL_s (subL_s (subL_s (subL_s (subL_n subL_nil))))))) (ih _ _ _ _ _ _ _ _ hf hX163)
      refine mw_icmp_ne (tgt := 89) dX9_holds_57 rfl (fun c14 => ?_) (fun c14 => ?_)
      · rw [if_neg c14] at r105
        refine mw_iload (x := x12) dX9_holds_89 rfl ?_
        obtain ⟨x61, h59, e60, r105⟩ := ob1 r105
        refine ml_callS (mc' := 0) (ms' := 0) [vi x12] dX9_holds_91 mk_X9_isLetter lk_RX9_30 st_X9_isLetter rfl (Nat.le_of_ble_eq_true rfl) (Nat.le_of_ble_eq_true rfl) (t_X9_isLetter E _ e60 isR_rfl) ?_
        refine mw_if_eq (tgt := 124) dX9_holds_94 rfl (fun c62 => ?_) (fun c62 => ?_)
        · rw [if_pos c62] at r105
          refine mw_iinc (x := v4) (v := v4 + (-1)) dX9_holds_124 rfl rfl (by decide) rfl ?_
          refine mw_aload_n (x := (some a0)) dX9_holds_127 rfl ?_
          obtain ⟨x63, e64, r105⟩ := ob r105
          refine ml_getQ dX9_holds_128 fl_RX9_114 rfl e64 ?_
          refine mw_iload (x := (v4 + (-1))) dX9_holds_131 rfl ?_
          refine mw_iconst (v := 1) dX9_holds_133 (by decide) ?_
          refine mw_isub dX9_holds_134 ?_
          refine mw_iload (x := x12) dX9_holds_135 rfl ?_
          refine mw_aload_n (x := (some a0)) dX9_holds_137 rfl ?_
          obtain ⟨x65, e66, r105⟩ := ob r105
          refine ml_getQ dX9_holds_138 fl_RX9_114 rfl e66 ?_
          refine mw_iload (x := (v4 + (-1))) dX9_holds_141 rfl ?_
          refine mw_iconst (v := 1) dX9_holds_143 (by decide) ?_
          refine mw_isub dX9_holds_144 ?_
          obtain ⟨x67, e68, r105⟩ := ob r105
          refine ml_iald dX9_holds_145 e68 ?_
          refine mw_aload_n (x := (some a0)) dX9_holds_146 rfl ?_
          obtain ⟨x69, e70, r105⟩ := ob r105
          refine ml_getQ dX9_holds_147 fl_RX9_114 rfl e70 ?_
          refine mw_iload (x := (v4 + (-1))) dX9_holds_150 rfl ?_
          obtain ⟨x71, e72, r105⟩ := ob r105
          refine ml_iald dX9_holds_152 e72 ?_
          obtain ⟨x75, h73, e74, r105⟩ := ob1 r105
          refine ml_callS (mc' := 0) (ms' := 0) [vi x12, vi x67, vi x71] dX9_holds_153 mk_X9_two lk_RX9_416 st_X9_two rfl (Nat.le_of_ble_eq_true rfl) (Nat.le_of_ble_eq_true rfl) (t_X9_two E _ e74 isR_rfl) ?_
          obtain ⟨h76, e77, r105⟩ := ob r105
          refine ml_iast dX9_holds_156 e77 ?_
          obtain ⟨rfl, rfl⟩ := y1 r105
          exact MW.sub (subL_s (subL_s (subL_s (subL_s (subL_s (subL_s (subL_n subL_nil))))))) J119
        · rw [if_neg c62] at r105
          refine mw_aload_n (x := (some a0)) dX9_holds_97 rfl ?_
          obtain ⟨x78, e79, r105⟩ := ob r105
          refine ml_getQ dX9_holds_98 fl_RX9_114 rfl e79 ?_
          refine mw_iload (x := v4) dX9_holds_101 rfl ?_
          refine mw_aload_n (x := (some a0)) dX9_holds_103 rfl ?_
          refine mw_iload (x := x12) dX9_holds_104 rfl ?_
          refine mw_aload_n (x := (some a0)) dX9_holds_106 rfl ?_
          obtain ⟨x80, e81, r105⟩ := ob r105
          refine ml_getQ dX9_holds_107 fl_RX9_105 rfl e81 ?_
          refine mw_iload (x := v5) dX9_holds_110 rfl ?_
          obtain ⟨x82, e83, r105⟩ := ob r105
          refine ml_iald dX9_holds_112 e83 ?_
          refine mw_iload_n (x := v3) dX9_holds_113 rfl ?_
          obtain ⟨g86, e87, r105⟩ := ob r105
          obtain ⟨x88, h84, e85, r105⟩ := ob1 r105
          refine ml_callV (ci := 8) (mc' := 0) (ms' := 0) [vi x12, vi x82, vi v3] dX9_holds_114 mk_X9_term lk_RX9_412 im_X9_term se_X9_term (by decide) e87 rfl (Nat.le_of_ble_eq_true rfl) (Nat.le_of_ble_eq_true rfl) (t_X9_term E _ e85 isR_rfl) ?_
          obtain ⟨h89, e90, r105⟩ := ob r105
          refine ml_iast dX9_holds_117 e90 ?_
          refine mw_iinc (x := v4) (v := v4 + 1) dX9_holds_118 rfl rfl (by decide) rfl ?_
          refine mw_goto (tgt := 157) dX9_holds_121 rfl ?_
          obtain ⟨rfl, rfl⟩ := y1 r105
          exact MW.sub (subL_s (subL_s (subL_s (subL_s (subL_s (subL_s (subL_n subL_nil))))))) J119
      · rw [if_pos c14] at r105
        refine mw_aload_n (x := (some a0)) dX9_holds_60 rfl ?_
        obtain ⟨x91, e92, r105⟩ := ob r105
        refine ml_getQ dX9_holds_61 fl_RX9_114 rfl e92 ?_
        refine mw_iload (x := v4) dX9_holds_64 rfl ?_
        refine mw_iconst (v := 1) dX9_holds_66 (by decide) ?_
        refine mw_isub dX9_holds_67 ?_
        refine mw_aload_n (x := (some a0)) dX9_holds_68 rfl ?_
        obtain ⟨x93, e94, r105⟩ := ob r105
        refine ml_getQ dX9_holds_69 fl_RX9_114 rfl e94 ?_
        refine mw_iload (x := v4) dX9_holds_72 rfl ?_
        refine mw_iconst (v := 1) dX9_holds_74 (by decide) ?_
        refine mw_isub dX9_holds_75 ?_
        obtain ⟨x95, e96, r105⟩ := ob r105
        refine ml_iald dX9_holds_76 e96 ?_
        obtain ⟨w98, h99, r100, r105⟩ := ob1 r105
        have J120 : MW E m_X9_holds (d + 2) mc ms 85 [some (vq (some a0)), some (vi v1), some (vi v2), some (vi v3), some (vi v4), some (vi v5), none] [vi w98, vi (v4 - (1 : Int32)), vq x91] h99 K := by
          obtain ⟨h101, e102, r105⟩ := ob r105
          refine ml_iast dX9_holds_85 e102 ?_
          refine mw_goto (tgt := 157) dX9_holds_86 rfl ?_
          obtain ⟨rfl, rfl⟩ := y1 r105
          exact MW.sub (subL_s (subL_s (subL_s (subL_s (subL_s (subL_s (subL_n subL_nil))))))) J119
        refine mw_if_ne (tgt := 84) dX9_holds_77 rfl (fun c97 => ?_) (fun c97 => ?_)
        · rw [if_neg c97] at r100
          refine mw_iconst (v := 0) dX9_holds_84 (by decide) ?_
          obtain ⟨rfl, rfl⟩ := y1 r100
          exact MW.sub (subL_s (subL_s (subL_s (subL_s (subL_s (subL_s (subL_n subL_nil))))))) J120
        · rw [if_pos c97] at r100
          refine mw_iconst (v := 1) dX9_holds_80 (by decide) ?_
          refine mw_goto (tgt := 85) dX9_holds_81 rfl ?_
          obtain ⟨rfl, rfl⟩ := y1 r100
          exact MW.sub (subL_s (subL_s (subL_s (subL_s (subL_s (subL_s (subL_n subL_nil))))))) J120
set_option maxHeartbeats 4000000 in
theorem t_X9_holds (E : En) (d : Nat) {mc ms : Nat} {a0 : Nat} {v1 : Int32} {v2 : Int32} {v3 : Int32} {h h' : Hp} {r : Int32} {K : Option Vv → Hp → Prop} (hf : f_X9_holds a0 v1 v2 v3 h = some (r, h')) (hk : K (some (vi r)) h') : MC E m_X9_holds (d + 2) mc ms [vq (some a0), vi v1, vi v2, vi v3] h K := by
  unfold f_X9_holds at hf
  show MW E m_X9_holds (d + 2) mc ms 0 [some (vq (some a0)), some (vi v1), some (vi v2), some (vi v3), none, none, none] [] h K
  refine mw_iconst (v := 0) dX9_holds_0 (by decide) ?_
  refine mw_istore dX9_holds_1 (by decide) rfl ?_
  refine mw_sipush (v := 900) dX9_holds_3 (by decide) ?_
  refine mw_iload_n (x := v1) dX9_holds_6 rfl ?_
  refine mw_imul dX9_holds_7 ?_
  refine mw_aload_n (x := (some a0)) dX9_holds_8 rfl ?_
  obtain ⟨x1, e2, hf⟩ := ob hf
  refine ml_getQ dX9_holds_9 fl_RX9_96 rfl e2 ?_
  refine mw_bipush (v := 11) dX9_holds_12 (by decide) ?_
  refine mw_iload_n (x := v1) dX9_holds_14 rfl ?_
  refine mw_imul dX9_holds_15 ?_
  refine mw_iload_n (x := v2) dX9_holds_16 rfl ?_
  refine mw_iadd dX9_holds_17 ?_
  obtain ⟨x3, e4, hf⟩ := ob hf
  refine ml_iald dX9_holds_18 e4 ?_
  refine mw_iadd dX9_holds_19 ?_
  refine mw_istore dX9_holds_20 (by decide) rfl ?_
  obtain ⟨h106, e117, hf⟩ := ob hf
  refine MW.sub (subL_s (subL_s (subL_s (subL_s (subL_s (subL_s (subL_n subL_nil))))))) (tl_X9_holds_22 E d _ _ _ _ _ _ _ _ _ e117 ?_)
  refine mw_aload_n (x := (some a0)) dX9_holds_163 rfl ?_
  obtain ⟨x107, e108, hf⟩ := ob hf
  refine ml_getQ dX9_holds_164 fl_RX9_114 rfl e108 ?_
  refine mw_iconst (v := 0) dX9_holds_167 (by decide) ?_
  obtain ⟨x109, e110, hf⟩ := ob hf
  refine ml_iald dX9_holds_168 e110 ?_
  obtain ⟨w112, h113, r114, hf⟩ := ob1 hf
  have J121 : MW E m_X9_holds (d + 2) mc ms 177 [none, none, none, none, none, none, none] [vi w112] h113 K := by
    obtain ⟨z115, e116, hf⟩ := ob hf
    obtain ⟨rfl, rfl⟩ := y1 hf
    exact mw_ireturn dX9_holds_177 rfl (zok_of e116) hk
  refine mw_if_eq (tgt := 176) dX9_holds_169 rfl (fun c111 => ?_) (fun c111 => ?_)
  · rw [if_pos c111] at r114
    refine mw_iconst (v := 0) dX9_holds_176 (by decide) ?_
    obtain ⟨rfl, rfl⟩ := y1 r114
    exact MW.sub (subL_n (subL_n (subL_n (subL_n (subL_n (subL_n (subL_n subL_nil))))))) J121
  · rw [if_neg c111] at r114
    refine mw_iconst (v := 1) dX9_holds_172 (by decide) ?_
    refine mw_goto (tgt := 177) dX9_holds_173 rfl ?_
    obtain ⟨rfl, rfl⟩ := y1 r114
    exact MW.sub (subL_n (subL_n (subL_n (subL_n (subL_n (subL_n (subL_n subL_nil))))))) J121
def f_X9_partOf_L3 : Nat → Nat → Int32 → Int32 → Int32 → Int32 → Hp → Option ((Int32 × Hp) ⊕ (Hp))
  | 0, _, _, _, _, _, _ => none
  | n + 1, a0, v1, v2, v3, v4, h =>
    (getQ h (some a0) 8 13).bind fun x1 =>
    (rdI h x1 10 v1).bind fun x3 =>
    if x3 ≤ v4 then
      some (Sum.inr h)
    else
      (getQ h (some a0) 8 14).bind fun x6 =>
      (rdI h x6 10 (((11 : Int32) * v1) + v4)).bind fun x8 =>
      if x8 = v2 then
        (rc h (some a0) 8).bind fun g13 =>
        b1 (f_X9_holds g13 v1 v4 v3 h) fun x15 h11 =>
        if x15 = (0 : Int32) then
          f_X9_partOf_L3 n a0 v1 v2 v3 (v4 + 1) h11
        else
          some (Sum.inl (v4, h11))
      else
        f_X9_partOf_L3 n a0 v1 v2 v3 (v4 + 1) h
def f_X9_partOf (a0 : Nat) (v1 : Int32) (v2 : Int32) (v3 : Int32) (h : Hp) : Option (Int32 × Hp) :=
  (f_X9_partOf_L3 fu a0 v1 v2 v3 0 h).bind (Sum.elim (c1 fun w17 h18 => (getQ h18 (some a0) 8 15).bind fun x19 =>
    (rdI h18 x19 10 (((11 : Int32) * v1) + w17)).bind fun x21 =>
    some (x21, h18)) (fun h23 => some (0, h23)))
set_option maxHeartbeats 4000000 in
theorem tl_X9_partOf_3 (E : En) (d : Nat) {mc ms : Nat} {K : Option Vv → Hp → Prop} : ∀ (n : Nat) (a0 : Nat) (v1 : Int32) (v2 : Int32) (v3 : Int32) (v4 : Int32) (h : Hp) (o : (Int32 × Hp) ⊕ (Hp)), f_X9_partOf_L3 n a0 v1 v2 v3 v4 h = some o → (∀ (u4 : Int32) (hz : Hp), o = Sum.inl (u4, hz) → MW E m_X9_partOf (d + 3) mc ms 41 [some (vq (some a0)), some (vi v1), none, none, some (vi u4)] [] hz K) → (∀ (hz : Hp), o = Sum.inr hz → MW E m_X9_partOf (d + 3) mc ms 60 [none, none, none, none, none] [] hz K) → MW E m_X9_partOf (d + 3) mc ms 3 [some (vq (some a0)), some (vi v1), some (vi v2), some (vi v3), some (vi v4)] [] h K := by
  intro n
  induction n with
  | zero => intro a0 v1 v2 v3 v4 h o hf; exact nomatch (show none = some _ from hf)
  | succ n ih =>
    intro a0 v1 v2 v3 v4 h o hf hX41 hX60
    rw [f_X9_partOf_L3] at hf
    refine mw_iload (x := v4) dX9_partOf_3 rfl ?_
    refine mw_aload_n (x := (some a0)) dX9_partOf_5 rfl ?_
    obtain ⟨x1, e2, hf⟩ := ob hf
    refine ml_getQ dX9_partOf_6 fl_RX9_76 rfl e2 ?_
    refine mw_iload_n (x := v1) dX9_partOf_9 rfl ?_
    obtain ⟨x3, e4, hf⟩ := ob hf
    refine ml_iald dX9_partOf_10 e4 ?_
    refine mw_icmp_ge (tgt := 60) dX9_partOf_11 rfl (fun c5 => ?_) (fun c5 => ?_)
    · rw [if_pos c5] at hf
      obtain rfl := y0 hf
      exact MW.sub (subL_n (subL_n (subL_n (subL_n (subL_n subL_nil))))) (hX60 _ rfl)
    · rw [if_neg c5] at hf
      refine mw_aload_n (x := (some a0)) dX9_partOf_14 rfl ?_
      obtain ⟨x6, e7, hf⟩ := ob hf
      refine ml_getQ dX9_partOf_15 fl_RX9_90 rfl e7 ?_
      refine mw_bipush (v := 11) dX9_partOf_18 (by decide) ?_
      refine mw_iload_n (x := v1) dX9_partOf_20 rfl ?_
      refine mw_imul dX9_partOf_21 ?_
      refine mw_iload (x := v4) dX9_partOf_22 rfl ?_
      refine mw_iadd dX9_partOf_24 ?_
      obtain ⟨x8, e9, hf⟩ := ob hf
      refine ml_iald dX9_partOf_25 e9 ?_
      refine mw_iload_n (x := v2) dX9_partOf_26 rfl ?_
      refine mw_icmp_ne (tgt := 54) dX9_partOf_27 rfl (fun c10 => ?_) (fun c10 => ?_)
      · rw [if_neg c10] at hf
        refine mw_iinc (x := v4) (v := v4 + 1) dX9_partOf_54 rfl rfl (by decide) rfl ?_
        refine mw_goto (tgt := 3) dX9_partOf_57 rfl ?_
        exact MW.sub (subL_s (subL_s (subL_s (subL_s (subL_s subL_nil))))) (ih _ _ _ _ _ _ _ hf hX41 hX60)
      · rw [if_pos c10] at hf
        refine mw_aload_n (x := (some a0)) dX9_partOf_30 rfl ?_
        refine mw_iload_n (x := v1) dX9_partOf_31 rfl ?_
        refine mw_iload (x := v4) dX9_partOf_32 rfl ?_
        refine mw_iload_n (x := v3) dX9_partOf_34 rfl ?_
        obtain ⟨g13, e14, hf⟩ := ob hf
        obtain ⟨x15, h11, e12, hf⟩ := ob1 hf
        refine ml_callV (ci := 8) (mc' := 0) (ms' := 0) [vi v1, vi v4, vi v3] dX9_partOf_35 mk_X9_holds lk_RX9_419 im_X9_holds se_X9_holds (by decide) e14 rfl (Nat.le_of_ble_eq_true rfl) (Nat.le_of_ble_eq_true rfl) (t_X9_holds E _ e12 isR_rfl) ?_
        refine mw_if_eq (tgt := 54) dX9_partOf_38 rfl (fun c16 => ?_) (fun c16 => ?_)
        · rw [if_pos c16] at hf
          refine mw_iinc (x := v4) (v := v4 + 1) dX9_partOf_54 rfl rfl (by decide) rfl ?_
          refine mw_goto (tgt := 3) dX9_partOf_57 rfl ?_
          exact MW.sub (subL_s (subL_s (subL_s (subL_s (subL_s subL_nil))))) (ih _ _ _ _ _ _ _ hf hX41 hX60)
        · rw [if_neg c16] at hf
          obtain rfl := y0 hf
          exact MW.sub (subL_s (subL_s (subL_n (subL_n (subL_s subL_nil))))) (hX41 _ _ rfl)
set_option maxHeartbeats 4000000 in
theorem t_X9_partOf (E : En) (d : Nat) {mc ms : Nat} {a0 : Nat} {v1 : Int32} {v2 : Int32} {v3 : Int32} {h h' : Hp} {r : Int32} {K : Option Vv → Hp → Prop} (hf : f_X9_partOf a0 v1 v2 v3 h = some (r, h')) (hk : K (some (vi r)) h') : MC E m_X9_partOf (d + 3) mc ms [vq (some a0), vi v1, vi v2, vi v3] h K := by
  unfold f_X9_partOf at hf
  show MW E m_X9_partOf (d + 3) mc ms 0 [some (vq (some a0)), some (vi v1), some (vi v2), some (vi v3), none] [] h K
  refine mw_iconst (v := 0) dX9_partOf_0 (by decide) ?_
  refine mw_istore dX9_partOf_1 (by decide) rfl ?_
  obtain ⟨o25, e24, hf⟩ := ob hf
  rcases o25 with ⟨w17, h18⟩ | h23
  · have HX : MW E m_X9_partOf (d + 3) mc ms 41 [some (vq (some a0)), some (vi v1), none, none, some (vi w17)] [] h18 K := by
      refine mw_aload_n (x := (some a0)) dX9_partOf_41 rfl ?_
      obtain ⟨x19, e20, hf⟩ := ob hf
      refine ml_getQ dX9_partOf_42 fl_RX9_93 rfl e20 ?_
      refine mw_bipush (v := 11) dX9_partOf_45 (by decide) ?_
      refine mw_iload_n (x := v1) dX9_partOf_47 rfl ?_
      refine mw_imul dX9_partOf_48 ?_
      refine mw_iload (x := w17) dX9_partOf_49 rfl ?_
      refine mw_iadd dX9_partOf_51 ?_
      obtain ⟨x21, e22, hf⟩ := ob hf
      refine ml_iald dX9_partOf_52 e22 ?_
      obtain ⟨rfl, rfl⟩ := y1 hf
      exact mw_ireturn dX9_partOf_53 rfl rfl hk
    exact MW.sub (subL_s (subL_s (subL_s (subL_s (subL_s subL_nil))))) (tl_X9_partOf_3 E d _ _ _ _ _ _ _ _ e24 (fun _ _ q => by cases q; exact HX) (fun _ q => by cases q))
  · have HX : MW E m_X9_partOf (d + 3) mc ms 60 [none, none, none, none, none] [] h23 K := by
      refine mw_iconst (v := 0) dX9_partOf_60 (by decide) ?_
      obtain ⟨rfl, rfl⟩ := y1 hf
      exact mw_ireturn dX9_partOf_61 rfl rfl hk
    exact MW.sub (subL_s (subL_s (subL_s (subL_s (subL_s subL_nil))))) (tl_X9_partOf_3 E d _ _ _ _ _ _ _ _ e24 (fun _ _ q => by cases q) (fun _ q => by cases q; exact HX))
def f_X9_reckon_L15 : Nat → Nat → Int32 → Int32 → Int32 → Hp → Option ((Hp))
  | 0, _, _, _, _, _ => none
  | n + 1, a0, v1, v3, v5, h =>
    if (104 : Int32) ≤ v5 then
      some h
    else
      (getQ h (some a0) 8 47).bind fun x8 =>
      (rdI h x8 12 v5).bind fun x10 =>
      Option.bind ((if x10 = (0 : Int32) then
          some h
        else
          (getQ h (some a0) 8 43).bind fun x37 =>
          b1 ((if v3 = (0 : Int32) then
              (getQ h (some a0) 8 44).bind fun x48 =>
              (rdI h x48 10 v5).bind fun x50 =>
              some (x50, h)
            else
              (getQ h (some a0) 8 45).bind fun x52 =>
              (rdI h x52 10 v5).bind fun x54 =>
              some (x54, h) : Option (Int32 × Hp))) fun w56 h57 =>
          (wrI h57 x37 ((6 : Int32) * v5) w56).bind fun h59 =>
          some h59 : Option (Hp))) fun h61 =>
      f_X9_reckon_L15 n a0 v1 v3 (v5 + 1) h61
def f_X9_reckon_L131 : Nat → Nat → Int32 → Int32 → Int32 → Hp → Option ((Hp))
  | 0, _, _, _, _, _ => none
  | n + 1, a0, v1, v5, v6, h =>
    if (5 : Int32) ≤ v6 then
      some h
    else
      (rc h (some a0) 8).bind fun g100 =>
      b1 (f_X9_partOf g100 v1 v6 v5 h) fun x102 h98 =>
      (getQ h98 (some a0) 8 52).bind fun x103 =>
      (rdI h98 x103 10 v5).bind fun x105 =>
      (getQ h98 (some a0) 8 43).bind fun x107 =>
      (rdI h98 x107 10 (((6 : Int32) * v5) + v6)).bind fun x109 =>
      (dvI (x109 * x102) 100).bind fun x111 =>
      (wrI h98 x103 v5 (x105 + x111)).bind fun h113 =>
      (getQ h113 (some a0) 8 53).bind fun x115 =>
      (rdI h113 x115 10 v5).bind fun x117 =>
      b1 ((if x102 ≤ (0 : Int32) then
          some (0, h113)
        else
          (getQ h113 (some a0) 8 43).bind fun x125 =>
          (rdI h113 x125 10 (((6 : Int32) * v5) + v6)).bind fun x127 =>
          if x127 ≤ (0 : Int32) then
            some (0, h113)
          else
            some (((1 : Int32) <<< (v6 &&& 31)), h113) : Option (Int32 × Hp))) fun w130 h131 =>
      (wrI h131 x115 v5 (x117 ||| w130)).bind fun h133 =>
      f_X9_reckon_L131 n a0 v1 v5 (v6 + 1) h133
def f_X9_reckon_L72 : Nat → Nat → Int32 → Int32 → Hp → Option ((Hp))
  | 0, _, _, _, _ => none
  | n + 1, a0, v1, v5, h =>
    if (104 : Int32) ≤ v5 then
      some h
    else
      (getQ h (some a0) 8 52).bind fun x65 =>
      (wrI h x65 v5 0).bind fun h67 =>
      (getQ h67 (some a0) 8 53).bind fun x69 =>
      (wrI h67 x69 v5 0).bind fun h71 =>
      (getQ h71 (some a0) 8 54).bind fun x73 =>
      (getQ h71 (some a0) 8 24).bind fun x75 =>
      (rdI h71 x75 12 v1).bind fun x77 =>
      b1 ((if x77 = (0 : Int32) then
          some (0, h71)
        else
          (rc h71 (some a0) 8).bind fun g88 =>
          b1 (f_X9_holds g88 v1 (10 : Int32) v5 h71) fun x90 h86 =>
          if x90 = (0 : Int32) then
            some (0, h86)
          else
            some (1, h86) : Option (Int32 × Hp))) fun w92 h93 =>
      (wrZ h93 x73 v5 w92).bind fun h95 =>
      (f_X9_reckon_L131 fu a0 v1 v5 0 h95).bind fun h135 =>
      f_X9_reckon_L72 n a0 v1 (v5 + 1) h135
def f_X9_reckon (a0 : Nat) (v1 : Int32) (v2 : Int32) (v3 : Int32) (v4 : Int32) (h : Hp) : Option (Hp) :=
  (rc h (some a0) 8).bind fun g3 =>
  (f_X9_know g3 v2 v4 h).bind fun h1 =>
  (putI h1 (some a0) 8 55 v2).bind fun h5 =>
  (f_X9_reckon_L15 fu a0 v1 v3 0 h5).bind fun h63 =>
  (f_X9_reckon_L72 fu a0 v1 0 h63).bind fun h138 =>
  some h138
set_option maxHeartbeats 4000000 in
theorem tl_X9_reckon_15 (E : En) (d : Nat) {mc ms : Nat} {K : Option Vv → Hp → Prop} : ∀ (n : Nat) (a0 : Nat) (v1 : Int32) (v3 : Int32) (v5 : Int32) (h : Hp) (hz : Hp), f_X9_reckon_L15 n a0 v1 v3 v5 h = some hz → MW E m_X9_reckon (d + 5) mc ms 69 [some (vq (some a0)), some (vi v1), none, none, none, none, none, none] [] hz K → MW E m_X9_reckon (d + 5) mc ms 15 [some (vq (some a0)), some (vi v1), none, some (vi v3), none, some (vi v5), none, none] [] h K := by
  intro n
  induction n with
  | zero => intro a0 v1 v3 v5 h hz hf; exact nomatch (show none = some _ from hf)
  | succ n ih =>
    intro a0 v1 v3 v5 h hz hf hX69
    rw [f_X9_reckon_L15] at hf
    refine mw_iload (x := v5) dX9_reckon_15 rfl ?_
    refine mw_bipush (v := 104) dX9_reckon_17 (by decide) ?_
    refine mw_icmp_ge (tgt := 69) dX9_reckon_19 rfl (fun c7 => ?_) (fun c7 => ?_)
    · rw [if_pos c7] at hf
      obtain rfl := y0 hf
      exact MW.sub (subL_s (subL_s (subL_n (subL_n (subL_n (subL_n (subL_n (subL_n subL_nil)))))))) hX69
    · rw [if_neg c7] at hf
      refine mw_aload_n (x := (some a0)) dX9_reckon_22 rfl ?_
      obtain ⟨x8, e9, hf⟩ := ob hf
      refine ml_getQ dX9_reckon_23 fl_RX9_159 rfl e9 ?_
      refine mw_iload (x := v5) dX9_reckon_26 rfl ?_
      obtain ⟨x10, e11, hf⟩ := ob hf
      refine ml_zald dX9_reckon_28 e11 ?_
      obtain ⟨h61, r62, hf⟩ := ob hf
      have J143 : MW E m_X9_reckon (d + 5) mc ms 63 [some (vq (some a0)), some (vi v1), none, some (vi v3), none, some (vi v5), none, none] [] h61 K := by
        refine mw_iinc (x := v5) (v := v5 + 1) dX9_reckon_63 rfl rfl (by decide) rfl ?_
        refine mw_goto (tgt := 15) dX9_reckon_66 rfl ?_
        exact MW.sub (subL_s (subL_s (subL_n (subL_s (subL_n (subL_s (subL_n (subL_n subL_nil)))))))) (ih _ _ _ _ _ _ hf hX69)
      refine mw_if_eq (tgt := 63) dX9_reckon_29 rfl (fun c12 => ?_) (fun c12 => ?_)
      · rw [if_pos c12] at r62
        obtain rfl := y0 r62
        exact MW.sub (subL_s (subL_s (subL_n (subL_s (subL_n (subL_s (subL_n (subL_n subL_nil)))))))) J143
      · rw [if_neg c12] at r62
        refine mw_aload_n (x := (some a0)) dX9_reckon_32 rfl ?_
        obtain ⟨x37, e38, r62⟩ := ob r62
        refine ml_getQ dX9_reckon_33 fl_RX9_147 rfl e38 ?_
        refine mw_bipush (v := 6) dX9_reckon_36 (by decide) ?_
        refine mw_iload (x := v5) dX9_reckon_38 rfl ?_
        refine mw_imul dX9_reckon_40 ?_
        refine mw_iload_n (x := v3) dX9_reckon_41 rfl ?_
        obtain ⟨w56, h57, r58, r62⟩ := ob1 r62
        have J144 : MW E m_X9_reckon (d + 5) mc ms 62 [some (vq (some a0)), some (vi v1), none, some (vi v3), none, some (vi v5), none, none] [vi w56, vi ((6 : Int32) * v5), vq x37] h57 K := by
          obtain ⟨h59, e60, r62⟩ := ob r62
          refine ml_iast dX9_reckon_62 e60 ?_
          obtain rfl := y0 r62
          exact MW.sub (subL_s (subL_s (subL_n (subL_s (subL_n (subL_s (subL_n (subL_n subL_nil)))))))) J143
        refine mw_if_eq (tgt := 55) dX9_reckon_42 rfl (fun c39 => ?_) (fun c39 => ?_)
        · rw [if_pos c39] at r58
          refine mw_aload_n (x := (some a0)) dX9_reckon_55 rfl ?_
          obtain ⟨x48, e49, r58⟩ := ob r58
          refine ml_getQ dX9_reckon_56 fl_RX9_150 rfl e49 ?_
          refine mw_iload (x := v5) dX9_reckon_59 rfl ?_
          obtain ⟨x50, e51, r58⟩ := ob r58
          refine ml_iald dX9_reckon_61 e51 ?_
          obtain ⟨rfl, rfl⟩ := y1 r58
          exact MW.sub (subL_s (subL_s (subL_n (subL_s (subL_n (subL_s (subL_n (subL_n subL_nil)))))))) J144
        · rw [if_neg c39] at r58
          refine mw_aload_n (x := (some a0)) dX9_reckon_45 rfl ?_
          obtain ⟨x52, e53, r58⟩ := ob r58
          refine ml_getQ dX9_reckon_46 fl_RX9_153 rfl e53 ?_
          refine mw_iload (x := v5) dX9_reckon_49 rfl ?_
          obtain ⟨x54, e55, r58⟩ := ob r58
          refine ml_iald dX9_reckon_51 e55 ?_
          refine mw_goto (tgt := 62) dX9_reckon_52 rfl ?_
          obtain ⟨rfl, rfl⟩ := y1 r58
          exact MW.sub (subL_s (subL_s (subL_n (subL_s (subL_n (subL_s (subL_n (subL_n subL_nil)))))))) J144
set_option maxHeartbeats 4000000 in
theorem tl_X9_reckon_131 (E : En) (d : Nat) {mc ms : Nat} {K : Option Vv → Hp → Prop} : ∀ (n : Nat) (a0 : Nat) (v1 : Int32) (v5 : Int32) (v6 : Int32) (h : Hp) (hz : Hp), f_X9_reckon_L131 n a0 v1 v5 v6 h = some hz → MW E m_X9_reckon (d + 5) mc ms 222 [some (vq (some a0)), some (vi v1), none, none, none, some (vi v5), none, none] [] hz K → MW E m_X9_reckon (d + 5) mc ms 131 [some (vq (some a0)), some (vi v1), none, none, none, some (vi v5), some (vi v6), none] [] h K := by
  intro n
  induction n with
  | zero => intro a0 v1 v5 v6 h hz hf; exact nomatch (show none = some _ from hf)
  | succ n ih =>
    intro a0 v1 v5 v6 h hz hf hX222
    rw [f_X9_reckon_L131] at hf
    refine mw_iload (x := v6) dX9_reckon_131 rfl ?_
    refine mw_iconst (v := 5) dX9_reckon_133 (by decide) ?_
    refine mw_icmp_ge (tgt := 222) dX9_reckon_134 rfl (fun c97 => ?_) (fun c97 => ?_)
    · rw [if_pos c97] at hf
      obtain rfl := y0 hf
      exact MW.sub (subL_s (subL_s (subL_n (subL_n (subL_n (subL_s (subL_n (subL_n subL_nil)))))))) hX222
    · rw [if_neg c97] at hf
      refine mw_aload_n (x := (some a0)) dX9_reckon_137 rfl ?_
      refine mw_iload_n (x := v1) dX9_reckon_138 rfl ?_
      refine mw_iload (x := v6) dX9_reckon_139 rfl ?_
      refine mw_iload (x := v5) dX9_reckon_141 rfl ?_
      obtain ⟨g100, e101, hf⟩ := ob hf
      obtain ⟨x102, h98, e99, hf⟩ := ob1 hf
      refine ml_callV (ci := 8) (mc' := 0) (ms' := 0) [vi v1, vi v6, vi v5] dX9_reckon_143 mk_X9_partOf lk_RX9_422 im_X9_partOf se_X9_partOf (by decide) e101 rfl (Nat.le_of_ble_eq_true rfl) (Nat.le_of_ble_eq_true rfl) (t_X9_partOf E _ e99 isR_rfl) ?_
      refine mw_istore dX9_reckon_146 (by decide) rfl ?_
      refine mw_aload_n (x := (some a0)) dX9_reckon_148 rfl ?_
      obtain ⟨x103, e104, hf⟩ := ob hf
      refine ml_getQ dX9_reckon_149 fl_RX9_166 rfl e104 ?_
      refine mw_iload (x := v5) dX9_reckon_152 rfl ?_
      refine mw_dup2iq dX9_reckon_154 ?_
      obtain ⟨x105, e106, hf⟩ := ob hf
      refine ml_iald dX9_reckon_155 e106 ?_
      refine mw_aload_n (x := (some a0)) dX9_reckon_156 rfl ?_
      obtain ⟨x107, e108, hf⟩ := ob hf
      refine ml_getQ dX9_reckon_157 fl_RX9_147 rfl e108 ?_
      refine mw_bipush (v := 6) dX9_reckon_160 (by decide) ?_
      refine mw_iload (x := v5) dX9_reckon_162 rfl ?_
      refine mw_imul dX9_reckon_164 ?_
      refine mw_iload (x := v6) dX9_reckon_165 rfl ?_
      refine mw_iadd dX9_reckon_167 ?_
      obtain ⟨x109, e110, hf⟩ := ob hf
      refine ml_iald dX9_reckon_168 e110 ?_
      refine mw_iload (x := x102) dX9_reckon_169 rfl ?_
      refine mw_imul dX9_reckon_171 ?_
      refine mw_bipush (v := 100) dX9_reckon_172 (by decide) ?_
      obtain ⟨x111, e112, hf⟩ := ob hf
      refine ml_idiv dX9_reckon_174 e112 ?_
      refine mw_iadd dX9_reckon_175 ?_
      obtain ⟨h113, e114, hf⟩ := ob hf
      refine ml_iast dX9_reckon_176 e114 ?_
      refine mw_aload_n (x := (some a0)) dX9_reckon_177 rfl ?_
      obtain ⟨x115, e116, hf⟩ := ob hf
      refine ml_getQ dX9_reckon_178 fl_RX9_169 rfl e116 ?_
      refine mw_iload (x := v5) dX9_reckon_181 rfl ?_
      refine mw_dup2iq dX9_reckon_183 ?_
      obtain ⟨x117, e118, hf⟩ := ob hf
      refine ml_iald dX9_reckon_184 e118 ?_
      refine mw_iload (x := x102) dX9_reckon_185 rfl ?_
      obtain ⟨w130, h131, r132, hf⟩ := ob1 hf
      have J145 : MW E m_X9_reckon (d + 5) mc ms 214 [some (vq (some a0)), some (vi v1), none, none, none, some (vi v5), some (vi v6), none] [vi w130, vi x117, vi v5, vq x115] h131 K := by
        refine mw_ior dX9_reckon_214 ?_
        obtain ⟨h133, e134, hf⟩ := ob hf
        refine ml_iast dX9_reckon_215 e134 ?_
        refine mw_iinc (x := v6) (v := v6 + 1) dX9_reckon_216 rfl rfl (by decide) rfl ?_
        refine mw_goto (tgt := 131) dX9_reckon_219 rfl ?_
        exact MW.sub (subL_s (subL_s (subL_n (subL_n (subL_n (subL_s (subL_s (subL_n subL_nil)))))))) (ih _ _ _ _ _ _ hf hX222)
      refine mw_if_le (tgt := 213) dX9_reckon_187 rfl (fun c119 => ?_) (fun c119 => ?_)
      · rw [if_pos c119] at r132
        refine mw_iconst (v := 0) dX9_reckon_213 (by decide) ?_
        obtain ⟨rfl, rfl⟩ := y1 r132
        exact MW.sub (subL_s (subL_s (subL_n (subL_n (subL_n (subL_s (subL_s (subL_n subL_nil)))))))) J145
      · rw [if_neg c119] at r132
        refine mw_aload_n (x := (some a0)) dX9_reckon_190 rfl ?_
        obtain ⟨x125, e126, r132⟩ := ob r132
        refine ml_getQ dX9_reckon_191 fl_RX9_147 rfl e126 ?_
        refine mw_bipush (v := 6) dX9_reckon_194 (by decide) ?_
        refine mw_iload (x := v5) dX9_reckon_196 rfl ?_
        refine mw_imul dX9_reckon_198 ?_
        refine mw_iload (x := v6) dX9_reckon_199 rfl ?_
        refine mw_iadd dX9_reckon_201 ?_
        obtain ⟨x127, e128, r132⟩ := ob r132
        refine ml_iald dX9_reckon_202 e128 ?_
        refine mw_if_le (tgt := 213) dX9_reckon_203 rfl (fun c129 => ?_) (fun c129 => ?_)
        · rw [if_pos c129] at r132
          refine mw_iconst (v := 0) dX9_reckon_213 (by decide) ?_
          obtain ⟨rfl, rfl⟩ := y1 r132
          exact MW.sub (subL_s (subL_s (subL_n (subL_n (subL_n (subL_s (subL_s (subL_n subL_nil)))))))) J145
        · rw [if_neg c129] at r132
          refine mw_iconst (v := 1) dX9_reckon_206 (by decide) ?_
          refine mw_iload (x := v6) dX9_reckon_207 rfl ?_
          refine mw_ishl dX9_reckon_209 ?_
          refine mw_goto (tgt := 214) dX9_reckon_210 rfl ?_
          obtain ⟨rfl, rfl⟩ := y1 r132
          exact MW.sub (subL_s (subL_s (subL_n (subL_n (subL_n (subL_s (subL_s (subL_n subL_nil)))))))) J145
set_option maxHeartbeats 4000000 in
theorem tl_X9_reckon_72 (E : En) (d : Nat) {mc ms : Nat} {K : Option Vv → Hp → Prop} : ∀ (n : Nat) (a0 : Nat) (v1 : Int32) (v5 : Int32) (h : Hp) (hz : Hp), f_X9_reckon_L72 n a0 v1 v5 h = some hz → MW E m_X9_reckon (d + 5) mc ms 228 [none, none, none, none, none, none, none, none] [] hz K → MW E m_X9_reckon (d + 5) mc ms 72 [some (vq (some a0)), some (vi v1), none, none, none, some (vi v5), none, none] [] h K := by
  intro n
  induction n with
  | zero => intro a0 v1 v5 h hz hf; exact nomatch (show none = some _ from hf)
  | succ n ih =>
    intro a0 v1 v5 h hz hf hX228
    rw [f_X9_reckon_L72] at hf
    refine mw_iload (x := v5) dX9_reckon_72 rfl ?_
    refine mw_bipush (v := 104) dX9_reckon_74 (by decide) ?_
    refine mw_icmp_ge (tgt := 228) dX9_reckon_76 rfl (fun c64 => ?_) (fun c64 => ?_)
    · rw [if_pos c64] at hf
      obtain rfl := y0 hf
      exact MW.sub (subL_n (subL_n (subL_n (subL_n (subL_n (subL_n (subL_n (subL_n subL_nil)))))))) hX228
    · rw [if_neg c64] at hf
      refine mw_aload_n (x := (some a0)) dX9_reckon_79 rfl ?_
      obtain ⟨x65, e66, hf⟩ := ob hf
      refine ml_getQ dX9_reckon_80 fl_RX9_166 rfl e66 ?_
      refine mw_iload (x := v5) dX9_reckon_83 rfl ?_
      refine mw_iconst (v := 0) dX9_reckon_85 (by decide) ?_
      obtain ⟨h67, e68, hf⟩ := ob hf
      refine ml_iast dX9_reckon_86 e68 ?_
      refine mw_aload_n (x := (some a0)) dX9_reckon_87 rfl ?_
      obtain ⟨x69, e70, hf⟩ := ob hf
      refine ml_getQ dX9_reckon_88 fl_RX9_169 rfl e70 ?_
      refine mw_iload (x := v5) dX9_reckon_91 rfl ?_
      refine mw_iconst (v := 0) dX9_reckon_93 (by decide) ?_
      obtain ⟨h71, e72, hf⟩ := ob hf
      refine ml_iast dX9_reckon_94 e72 ?_
      refine mw_aload_n (x := (some a0)) dX9_reckon_95 rfl ?_
      obtain ⟨x73, e74, hf⟩ := ob hf
      refine ml_getQ dX9_reckon_96 fl_RX9_172 rfl e74 ?_
      refine mw_iload (x := v5) dX9_reckon_99 rfl ?_
      refine mw_aload_n (x := (some a0)) dX9_reckon_101 rfl ?_
      obtain ⟨x75, e76, hf⟩ := ob hf
      refine ml_getQ dX9_reckon_102 fl_RX9_79 rfl e76 ?_
      refine mw_iload_n (x := v1) dX9_reckon_105 rfl ?_
      obtain ⟨x77, e78, hf⟩ := ob hf
      refine ml_zald dX9_reckon_106 e78 ?_
      obtain ⟨w92, h93, r94, hf⟩ := ob1 hf
      have J146 : MW E m_X9_reckon (d + 5) mc ms 127 [some (vq (some a0)), some (vi v1), none, none, none, some (vi v5), none, none] [vi w92, vi v5, vq x73] h93 K := by
        obtain ⟨h95, e96, hf⟩ := ob hf
        refine ml_zast dX9_reckon_127 e96 ?_
        refine mw_iconst (v := 0) dX9_reckon_128 (by decide) ?_
        refine mw_istore dX9_reckon_129 (by decide) rfl ?_
        obtain ⟨h135, e136, hf⟩ := ob hf
        refine MW.sub (subL_s (subL_s (subL_n (subL_n (subL_n (subL_s (subL_s (subL_n subL_nil)))))))) (tl_X9_reckon_131 E d _ _ _ _ _ _ _ e136 ?_)
        refine mw_iinc (x := v5) (v := v5 + 1) dX9_reckon_222 rfl rfl (by decide) rfl ?_
        refine mw_goto (tgt := 72) dX9_reckon_225 rfl ?_
        exact MW.sub (subL_s (subL_s (subL_n (subL_n (subL_n (subL_s (subL_n (subL_n subL_nil)))))))) (ih _ _ _ _ _ hf hX228)
      refine mw_if_eq (tgt := 126) dX9_reckon_107 rfl (fun c79 => ?_) (fun c79 => ?_)
      · rw [if_pos c79] at r94
        refine mw_iconst (v := 0) dX9_reckon_126 (by decide) ?_
        obtain ⟨rfl, rfl⟩ := y1 r94
        exact MW.sub (subL_s (subL_s (subL_n (subL_n (subL_n (subL_s (subL_n (subL_n subL_nil)))))))) J146
      · rw [if_neg c79] at r94
        refine mw_aload_n (x := (some a0)) dX9_reckon_110 rfl ?_
        refine mw_iload_n (x := v1) dX9_reckon_111 rfl ?_
        refine mw_bipush (v := 10) dX9_reckon_112 (by decide) ?_
        refine mw_iload (x := v5) dX9_reckon_114 rfl ?_
        obtain ⟨g88, e89, r94⟩ := ob r94
        obtain ⟨x90, h86, e87, r94⟩ := ob1 r94
        refine ml_callV (ci := 8) (mc' := 0) (ms' := 0) [vi v1, vi (10 : Int32), vi v5] dX9_reckon_116 mk_X9_holds lk_RX9_419 im_X9_holds se_X9_holds (by decide) e89 rfl (Nat.le_of_ble_eq_true rfl) (Nat.le_of_ble_eq_true rfl) (t_X9_holds E _ e87 isR_rfl) ?_
        refine mw_if_eq (tgt := 126) dX9_reckon_119 rfl (fun c91 => ?_) (fun c91 => ?_)
        · rw [if_pos c91] at r94
          refine mw_iconst (v := 0) dX9_reckon_126 (by decide) ?_
          obtain ⟨rfl, rfl⟩ := y1 r94
          exact MW.sub (subL_s (subL_s (subL_n (subL_n (subL_n (subL_s (subL_n (subL_n subL_nil)))))))) J146
        · rw [if_neg c91] at r94
          refine mw_iconst (v := 1) dX9_reckon_122 (by decide) ?_
          refine mw_goto (tgt := 127) dX9_reckon_123 rfl ?_
          obtain ⟨rfl, rfl⟩ := y1 r94
          exact MW.sub (subL_s (subL_s (subL_n (subL_n (subL_n (subL_s (subL_n (subL_n subL_nil)))))))) J146
set_option maxHeartbeats 4000000 in
theorem t_X9_reckon (E : En) (d : Nat) {mc ms : Nat} {a0 : Nat} {v1 : Int32} {v2 : Int32} {v3 : Int32} {v4 : Int32} {h h' : Hp} {K : Option Vv → Hp → Prop} (hf : f_X9_reckon a0 v1 v2 v3 v4 h = some h') (hk : K none h') : MC E m_X9_reckon (d + 5) mc ms [vq (some a0), vi v1, vi v2, vi v3, vi v4] h K := by
  unfold f_X9_reckon at hf
  show MW E m_X9_reckon (d + 5) mc ms 0 [some (vq (some a0)), some (vi v1), some (vi v2), some (vi v3), some (vi v4), none, none, none] [] h K
  refine mw_aload_n (x := (some a0)) dX9_reckon_0 rfl ?_
  refine mw_iload_n (x := v2) dX9_reckon_1 rfl ?_
  refine mw_iload (x := v4) dX9_reckon_2 rfl ?_
  obtain ⟨g3, e4, hf⟩ := ob hf
  obtain ⟨h1, e2, hf⟩ := ob hf
  refine ml_callV (ci := 8) (mc' := 0) (ms' := 0) [vi v2, vi v4] dX9_reckon_4 mk_X9_know lk_RX9_403 im_X9_know se_X9_know (by decide) e4 rfl (Nat.le_of_ble_eq_true rfl) (Nat.le_of_ble_eq_true rfl) (t_X9_know E _ e2 isR_rfl) ?_
  refine mw_aload_n (x := (some a0)) dX9_reckon_7 rfl ?_
  refine mw_iload_n (x := v2) dX9_reckon_8 rfl ?_
  obtain ⟨h5, e6, hf⟩ := ob hf
  refine ml_putI dX9_reckon_9 fl_RX9_406 (Or.inl rfl) rfl rfl e6 ?_
  refine mw_iconst (v := 0) dX9_reckon_12 (by decide) ?_
  refine mw_istore dX9_reckon_13 (by decide) rfl ?_
  obtain ⟨h63, e141, hf⟩ := ob hf
  refine MW.sub (subL_s (subL_s (subL_n (subL_s (subL_n (subL_s (subL_n (subL_n subL_nil)))))))) (tl_X9_reckon_15 E d _ _ _ _ _ _ _ e141 ?_)
  refine mw_iconst (v := 0) dX9_reckon_69 (by decide) ?_
  refine mw_istore dX9_reckon_70 (by decide) rfl ?_
  obtain ⟨h138, e139, hf⟩ := ob hf
  refine MW.sub (subL_s (subL_s (subL_n (subL_n (subL_n (subL_s (subL_n (subL_n subL_nil)))))))) (tl_X9_reckon_72 E d _ _ _ _ _ _ e139 ?_)
  obtain rfl := y0 hf
  exact mw_return dX9_reckon_228 rfl hk
def f_X9_averageOf_L28 : Nat → Nat → Int32 → Int32 → Int32 → Int32 → Hp → Option ((Int32 × Hp))
  | 0, _, _, _, _, _, _ => none
  | n + 1, a0, v1, v3, v4, v5, h =>
    if v5 < (0 : Int32) then
      some (v4, h)
    else
      (getQ h (some a0) 8 11).bind fun x12 =>
      (rdI h x12 10 (((7 : Int32) * v1) + (1 : Int32))).bind fun x14 =>
      if v5 < (v3 - x14) then
        some (v4, h)
      else
        (getI h (some a0) 8 57).bind fun x17 =>
        (getQ h (some a0) 8 11).bind fun x19 =>
        (rdI h x19 10 ((7 : Int32) * v1)).bind fun x21 =>
        if x21 ≤ x17 then
          some (v4, h)
        else
          (getQ h (some a0) 8 54).bind fun x24 =>
          (rdI h x24 12 v5).bind fun x26 =>
          b1 ((if x26 = (0 : Int32) then
              (getQ h (some a0) 8 52).bind fun x45 =>
              (rdI h x45 10 v5).bind fun x47 =>
              (getI h (some a0) 8 58).bind fun x49 =>
              (getQ h (some a0) 8 53).bind fun x51 =>
              (rdI h x51 10 v5).bind fun x53 =>
              (putI h (some a0) 8 58 (x49 ||| x53)).bind fun h55 =>
              (getI h55 (some a0) 8 57).bind fun x57 =>
              (putI h55 (some a0) 8 57 (x57 + (1 : Int32))).bind fun h59 =>
              some ((v4 + x47), h59)
            else
              some (v4, h) : Option (Int32 × Hp))) fun w61 h62 =>
          f_X9_averageOf_L28 n a0 v1 v3 w61 (v5 + (-1)) h62
def f_X9_averageOf (a0 : Nat) (v1 : Int32) (v2 : Int32) (h : Hp) : Option (Hp) :=
  (getQ h (some a0) 8 34).bind fun x1 =>
  (rdI h x1 10 v2).bind fun x3 =>
  (dvI x3 7).bind fun x5 =>
  (putI h (some a0) 8 57 0).bind fun h7 =>
  (putI h7 (some a0) 8 58 0).bind fun h9 =>
  b1 (f_X9_averageOf_L28 fu a0 v1 x5 0 (x5 - (1 : Int32)) h9) fun w64 h65 =>
  (getI h65 (some a0) 8 57).bind fun x66 =>
  b1 ((if x66 = (0 : Int32) then
      some (0, h65)
    else
      (getI h65 (some a0) 8 57).bind fun x73 =>
      (dvI w64 x73).bind fun x75 =>
      some (x75, h65) : Option (Int32 × Hp))) fun w77 h78 =>
  (putI h78 (some a0) 8 56 w77).bind fun h80 =>
  some h80
set_option maxHeartbeats 4000000 in
theorem tl_X9_averageOf_28 (E : En) (d : Nat) {mc ms : Nat} {K : Option Vv → Hp → Prop} : ∀ (n : Nat) (a0 : Nat) (v1 : Int32) (v3 : Int32) (v4 : Int32) (v5 : Int32) (h : Hp) (u4 : Int32) (hz : Hp), f_X9_averageOf_L28 n a0 v1 v3 v4 v5 h = some (u4, hz) → MW E m_X9_averageOf (d + 0) mc ms 124 [some (vq (some a0)), none, none, none, some (vi u4), none] [] hz K → MW E m_X9_averageOf (d + 0) mc ms 28 [some (vq (some a0)), some (vi v1), none, some (vi v3), some (vi v4), some (vi v5)] [] h K := by
  intro n
  induction n with
  | zero => intro a0 v1 v3 v4 v5 h u4 hz hf; exact nomatch (show none = some _ from hf)
  | succ n ih =>
    intro a0 v1 v3 v4 v5 h u4 hz hf hX124
    rw [f_X9_averageOf_L28] at hf
    refine mw_iload (x := v5) dX9_averageOf_28 rfl ?_
    refine mw_if_lt (tgt := 124) dX9_averageOf_30 rfl (fun c11 => ?_) (fun c11 => ?_)
    · rw [if_pos c11] at hf
      obtain ⟨rfl, rfl⟩ := y1 hf
      exact MW.sub (subL_s (subL_n (subL_n (subL_n (subL_s (subL_n subL_nil)))))) hX124
    · rw [if_neg c11] at hf
      refine mw_iload (x := v5) dX9_averageOf_33 rfl ?_
      refine mw_iload_n (x := v3) dX9_averageOf_35 rfl ?_
      refine mw_aload_n (x := (some a0)) dX9_averageOf_36 rfl ?_
      obtain ⟨x12, e13, hf⟩ := ob hf
      refine ml_getQ dX9_averageOf_37 fl_RX9_62 rfl e13 ?_
      refine mw_bipush (v := 7) dX9_averageOf_40 (by decide) ?_
      refine mw_iload_n (x := v1) dX9_averageOf_42 rfl ?_
      refine mw_imul dX9_averageOf_43 ?_
      refine mw_iconst (v := 1) dX9_averageOf_44 (by decide) ?_
      refine mw_iadd dX9_averageOf_45 ?_
      obtain ⟨x14, e15, hf⟩ := ob hf
      refine ml_iald dX9_averageOf_46 e15 ?_
      refine mw_isub dX9_averageOf_47 ?_
      refine mw_icmp_lt (tgt := 124) dX9_averageOf_48 rfl (fun c16 => ?_) (fun c16 => ?_)
      · rw [if_pos c16] at hf
        obtain ⟨rfl, rfl⟩ := y1 hf
        exact MW.sub (subL_s (subL_n (subL_n (subL_n (subL_s (subL_n subL_nil)))))) hX124
      · rw [if_neg c16] at hf
        refine mw_aload_n (x := (some a0)) dX9_averageOf_51 rfl ?_
        obtain ⟨x17, e18, hf⟩ := ob hf
        refine ml_getI dX9_averageOf_52 fl_RX9_429 rfl e18 ?_
        refine mw_aload_n (x := (some a0)) dX9_averageOf_55 rfl ?_
        obtain ⟨x19, e20, hf⟩ := ob hf
        refine ml_getQ dX9_averageOf_56 fl_RX9_62 rfl e20 ?_
        refine mw_bipush (v := 7) dX9_averageOf_59 (by decide) ?_
        refine mw_iload_n (x := v1) dX9_averageOf_61 rfl ?_
        refine mw_imul dX9_averageOf_62 ?_
        obtain ⟨x21, e22, hf⟩ := ob hf
        refine ml_iald dX9_averageOf_63 e22 ?_
        refine mw_icmp_ge (tgt := 124) dX9_averageOf_64 rfl (fun c23 => ?_) (fun c23 => ?_)
        · rw [if_pos c23] at hf
          obtain ⟨rfl, rfl⟩ := y1 hf
          exact MW.sub (subL_s (subL_n (subL_n (subL_n (subL_s (subL_n subL_nil)))))) hX124
        · rw [if_neg c23] at hf
          refine mw_aload_n (x := (some a0)) dX9_averageOf_67 rfl ?_
          obtain ⟨x24, e25, hf⟩ := ob hf
          refine ml_getQ dX9_averageOf_68 fl_RX9_172 rfl e25 ?_
          refine mw_iload (x := v5) dX9_averageOf_71 rfl ?_
          obtain ⟨x26, e27, hf⟩ := ob hf
          refine ml_zald dX9_averageOf_73 e27 ?_
          obtain ⟨w61, h62, r63, hf⟩ := ob1 hf
          have J84 : MW E m_X9_averageOf (d + 0) mc ms 118 [some (vq (some a0)), some (vi v1), none, some (vi v3), some (vi w61), some (vi v5)] [] h62 K := by
            refine mw_iinc (x := v5) (v := v5 + (-1)) dX9_averageOf_118 rfl rfl (by decide) rfl ?_
            refine mw_goto (tgt := 28) dX9_averageOf_121 rfl ?_
            exact MW.sub (subL_s (subL_s (subL_n (subL_s (subL_s (subL_s subL_nil)))))) (ih _ _ _ _ _ _ _ _ hf hX124)
          refine mw_if_eq (tgt := 80) dX9_averageOf_74 rfl (fun c28 => ?_) (fun c28 => ?_)
          · rw [if_pos c28] at r63
            refine mw_iload (x := v4) dX9_averageOf_80 rfl ?_
            refine mw_aload_n (x := (some a0)) dX9_averageOf_82 rfl ?_
            obtain ⟨x45, e46, r63⟩ := ob r63
            refine ml_getQ dX9_averageOf_83 fl_RX9_166 rfl e46 ?_
            refine mw_iload (x := v5) dX9_averageOf_86 rfl ?_
            obtain ⟨x47, e48, r63⟩ := ob r63
            refine ml_iald dX9_averageOf_88 e48 ?_
            refine mw_iadd dX9_averageOf_89 ?_
            refine mw_istore dX9_averageOf_90 (by decide) rfl ?_
            refine mw_aload_n (x := (some a0)) dX9_averageOf_92 rfl ?_
            refine mw_dupq dX9_averageOf_93 ?_
            obtain ⟨x49, e50, r63⟩ := ob r63
            refine ml_getI dX9_averageOf_94 fl_RX9_432 rfl e50 ?_
            refine mw_aload_n (x := (some a0)) dX9_averageOf_97 rfl ?_
            obtain ⟨x51, e52, r63⟩ := ob r63
            refine ml_getQ dX9_averageOf_98 fl_RX9_169 rfl e52 ?_
            refine mw_iload (x := v5) dX9_averageOf_101 rfl ?_
            obtain ⟨x53, e54, r63⟩ := ob r63
            refine ml_iald dX9_averageOf_103 e54 ?_
            refine mw_ior dX9_averageOf_104 ?_
            obtain ⟨h55, e56, r63⟩ := ob r63
            refine ml_putI dX9_averageOf_105 fl_RX9_432 (Or.inl rfl) rfl rfl e56 ?_
            refine mw_aload_n (x := (some a0)) dX9_averageOf_108 rfl ?_
            refine mw_dupq dX9_averageOf_109 ?_
            obtain ⟨x57, e58, r63⟩ := ob r63
            refine ml_getI dX9_averageOf_110 fl_RX9_429 rfl e58 ?_
            refine mw_iconst (v := 1) dX9_averageOf_113 (by decide) ?_
            refine mw_iadd dX9_averageOf_114 ?_
            obtain ⟨h59, e60, r63⟩ := ob r63
            refine ml_putI dX9_averageOf_115 fl_RX9_429 (Or.inl rfl) rfl rfl e60 ?_
            obtain ⟨rfl, rfl⟩ := y1 r63
            exact MW.sub (subL_s (subL_s (subL_n (subL_s (subL_s (subL_s subL_nil)))))) J84
          · rw [if_neg c28] at r63
            refine mw_goto (tgt := 118) dX9_averageOf_77 rfl ?_
            obtain ⟨rfl, rfl⟩ := y1 r63
            exact MW.sub (subL_s (subL_s (subL_n (subL_s (subL_s (subL_s subL_nil)))))) J84
set_option maxHeartbeats 4000000 in
theorem t_X9_averageOf (E : En) (d : Nat) {mc ms : Nat} {a0 : Nat} {v1 : Int32} {v2 : Int32} {h h' : Hp} {K : Option Vv → Hp → Prop} (hf : f_X9_averageOf a0 v1 v2 h = some h') (hk : K none h') : MC E m_X9_averageOf (d + 0) mc ms [vq (some a0), vi v1, vi v2] h K := by
  unfold f_X9_averageOf at hf
  show MW E m_X9_averageOf (d + 0) mc ms 0 [some (vq (some a0)), some (vi v1), some (vi v2), none, none, none] [] h K
  refine mw_aload_n (x := (some a0)) dX9_averageOf_0 rfl ?_
  obtain ⟨x1, e2, hf⟩ := ob hf
  refine ml_getQ dX9_averageOf_1 fl_RX9_129 rfl e2 ?_
  refine mw_iload_n (x := v2) dX9_averageOf_4 rfl ?_
  obtain ⟨x3, e4, hf⟩ := ob hf
  refine ml_iald dX9_averageOf_5 e4 ?_
  refine mw_bipush (v := 7) dX9_averageOf_6 (by decide) ?_
  obtain ⟨x5, e6, hf⟩ := ob hf
  refine ml_idiv dX9_averageOf_8 e6 ?_
  refine mw_istore_n dX9_averageOf_9 (by decide) rfl ?_
  refine mw_iconst (v := 0) dX9_averageOf_10 (by decide) ?_
  refine mw_istore dX9_averageOf_11 (by decide) rfl ?_
  refine mw_aload_n (x := (some a0)) dX9_averageOf_13 rfl ?_
  refine mw_iconst (v := 0) dX9_averageOf_14 (by decide) ?_
  obtain ⟨h7, e8, hf⟩ := ob hf
  refine ml_putI dX9_averageOf_15 fl_RX9_429 (Or.inl rfl) rfl rfl e8 ?_
  refine mw_aload_n (x := (some a0)) dX9_averageOf_18 rfl ?_
  refine mw_iconst (v := 0) dX9_averageOf_19 (by decide) ?_
  obtain ⟨h9, e10, hf⟩ := ob hf
  refine ml_putI dX9_averageOf_20 fl_RX9_432 (Or.inl rfl) rfl rfl e10 ?_
  refine mw_iload_n (x := x5) dX9_averageOf_23 rfl ?_
  refine mw_iconst (v := 1) dX9_averageOf_24 (by decide) ?_
  refine mw_isub dX9_averageOf_25 ?_
  refine mw_istore dX9_averageOf_26 (by decide) rfl ?_
  obtain ⟨w64, h65, e82, hf⟩ := ob1 hf
  refine MW.sub (subL_s (subL_s (subL_n (subL_s (subL_s (subL_s subL_nil)))))) (tl_X9_averageOf_28 E d _ _ _ _ _ _ _ _ _ e82 ?_)
  refine mw_aload_n (x := (some a0)) dX9_averageOf_124 rfl ?_
  refine mw_aload_n (x := (some a0)) dX9_averageOf_125 rfl ?_
  obtain ⟨x66, e67, hf⟩ := ob hf
  refine ml_getI dX9_averageOf_126 fl_RX9_429 rfl e67 ?_
  obtain ⟨w77, h78, r79, hf⟩ := ob1 hf
  have J85 : MW E m_X9_averageOf (d + 0) mc ms 143 [none, none, none, none, none, none] [vi w77, vq (some a0)] h78 K := by
    obtain ⟨h80, e81, hf⟩ := ob hf
    refine ml_putI dX9_averageOf_143 fl_RX9_435 (Or.inl rfl) rfl rfl e81 ?_
    obtain rfl := y0 hf
    exact mw_return dX9_averageOf_146 rfl hk
  refine mw_if_ne (tgt := 136) dX9_averageOf_129 rfl (fun c68 => ?_) (fun c68 => ?_)
  · rw [if_neg c68] at r79
    refine mw_iload (x := w64) dX9_averageOf_136 rfl ?_
    refine mw_aload_n (x := (some a0)) dX9_averageOf_138 rfl ?_
    obtain ⟨x73, e74, r79⟩ := ob r79
    refine ml_getI dX9_averageOf_139 fl_RX9_429 rfl e74 ?_
    obtain ⟨x75, e76, r79⟩ := ob r79
    refine ml_idiv dX9_averageOf_142 e76 ?_
    obtain ⟨rfl, rfl⟩ := y1 r79
    exact MW.sub (subL_n (subL_n (subL_n (subL_n (subL_n (subL_n subL_nil)))))) J85
  · rw [if_pos c68] at r79
    refine mw_iconst (v := 0) dX9_averageOf_132 (by decide) ?_
    refine mw_goto (tgt := 143) dX9_averageOf_133 rfl ?_
    obtain ⟨rfl, rfl⟩ := y1 r79
    exact MW.sub (subL_n (subL_n (subL_n (subL_n (subL_n (subL_n subL_nil)))))) J85
def f_X9_isIn (v0 : Int32) (v1 : Int32) (v2 : Int32) (h : Hp) : Option (Int32 × Hp) :=
  b1 ((if v0 < v1 then
      some (0, h)
    else
      if v2 < v0 then
        some (0, h)
      else
        some (1, h) : Option (Int32 × Hp))) fun w4 h5 =>
  (zok w4).bind fun z7 =>
  some (w4, h5)
set_option maxHeartbeats 4000000 in
theorem t_X9_isIn (E : En) (d : Nat) {mc ms : Nat} {v0 : Int32} {v1 : Int32} {v2 : Int32} {h h' : Hp} {r : Int32} {K : Option Vv → Hp → Prop} (hf : f_X9_isIn v0 v1 v2 h = some (r, h')) (hk : K (some (vi r)) h') : MC E m_X9_isIn (d + 0) mc ms [vi v0, vi v1, vi v2] h K := by
  unfold f_X9_isIn at hf
  show MW E m_X9_isIn (d + 0) mc ms 0 [some (vi v0), some (vi v1), some (vi v2)] [] h K
  refine mw_iload_n (x := v0) dX9_isIn_0 rfl ?_
  refine mw_iload_n (x := v1) dX9_isIn_1 rfl ?_
  obtain ⟨w4, h5, r6, hf⟩ := ob1 hf
  have J9 : MW E m_X9_isIn (d + 0) mc ms 15 [none, none, none] [vi w4] h5 K := by
    obtain ⟨z7, e8, hf⟩ := ob hf
    obtain ⟨rfl, rfl⟩ := y1 hf
    exact mw_ireturn dX9_isIn_15 rfl (zok_of e8) hk
  refine mw_icmp_lt (tgt := 14) dX9_isIn_2 rfl (fun c1 => ?_) (fun c1 => ?_)
  · rw [if_pos c1] at r6
    refine mw_iconst (v := 0) dX9_isIn_14 (by decide) ?_
    obtain ⟨rfl, rfl⟩ := y1 r6
    exact MW.sub (subL_n (subL_n (subL_n subL_nil))) J9
  · rw [if_neg c1] at r6
    refine mw_iload_n (x := v0) dX9_isIn_5 rfl ?_
    refine mw_iload_n (x := v2) dX9_isIn_6 rfl ?_
    refine mw_icmp_gt (tgt := 14) dX9_isIn_7 rfl (fun c3 => ?_) (fun c3 => ?_)
    · rw [if_pos c3] at r6
      refine mw_iconst (v := 0) dX9_isIn_14 (by decide) ?_
      obtain ⟨rfl, rfl⟩ := y1 r6
      exact MW.sub (subL_n (subL_n (subL_n subL_nil))) J9
    · rw [if_neg c3] at r6
      refine mw_iconst (v := 1) dX9_isIn_10 (by decide) ?_
      refine mw_goto (tgt := 15) dX9_isIn_11 rfl ?_
      obtain ⟨rfl, rfl⟩ := y1 r6
      exact MW.sub (subL_n (subL_n (subL_n subL_nil))) J9
def f_X9_isBarred_L2 : Nat → Nat → Int32 → Int32 → Int32 → Hp → Option ((Hp) ⊕ (Hp))
  | 0, _, _, _, _, _ => none
  | n + 1, a0, v1, v2, v3, h =>
    (getI h (some a0) 8 41).bind fun x1 =>
    if x1 ≤ v3 then
      some (Sum.inr h)
    else
      (getQ h (some a0) 8 33).bind fun x4 =>
      (rdI h x4 10 v1).bind fun x6 =>
      (rc h (some a0) 8).bind fun g10 =>
      b1 (f_X9_counts g10 v3 (4 : Int32) x6 v2 h) fun x12 h8 =>
      if x12 = (0 : Int32) then
        f_X9_isBarred_L2 n a0 v1 v2 (v3 + 1) h8
      else
        (getQ h8 (some a0) 8 34).bind fun x14 =>
        (rdI h8 x14 10 v1).bind fun x16 =>
        (getQ h8 (some a0) 8 34).bind fun x18 =>
        (rdI h8 x18 10 v3).bind fun x20 =>
        (getQ h8 (some a0) 8 35).bind fun x22 =>
        (rdI h8 x22 10 v3).bind fun x24 =>
        b1 (f_X9_isIn x16 x20 x24 h8) fun x28 h26 =>
        if x28 = (0 : Int32) then
          f_X9_isBarred_L2 n a0 v1 v2 (v3 + 1) h26
        else
          some (Sum.inl h26)
def f_X9_isBarred (a0 : Nat) (v1 : Int32) (v2 : Int32) (h : Hp) : Option (Int32 × Hp) :=
  (f_X9_isBarred_L2 fu a0 v1 v2 0 h).bind (Sum.elim (fun h30 => some (1, h30)) (fun h31 => some (0, h31)))
set_option maxHeartbeats 4000000 in
theorem tl_X9_isBarred_2 (E : En) (d : Nat) {mc ms : Nat} {K : Option Vv → Hp → Prop} : ∀ (n : Nat) (a0 : Nat) (v1 : Int32) (v2 : Int32) (v3 : Int32) (h : Hp) (o : (Hp) ⊕ (Hp)), f_X9_isBarred_L2 n a0 v1 v2 v3 h = some o → (∀ (hz : Hp), o = Sum.inl hz → MW E m_X9_isBarred (d + 1) mc ms 50 [none, none, none, none] [] hz K) → (∀ (hz : Hp), o = Sum.inr hz → MW E m_X9_isBarred (d + 1) mc ms 58 [none, none, none, none] [] hz K) → MW E m_X9_isBarred (d + 1) mc ms 2 [some (vq (some a0)), some (vi v1), some (vi v2), some (vi v3)] [] h K := by
  intro n
  induction n with
  | zero => intro a0 v1 v2 v3 h o hf; exact nomatch (show none = some _ from hf)
  | succ n ih =>
    intro a0 v1 v2 v3 h o hf hX50 hX58
    rw [f_X9_isBarred_L2] at hf
    refine mw_iload_n (x := v3) dX9_isBarred_2 rfl ?_
    refine mw_aload_n (x := (some a0)) dX9_isBarred_3 rfl ?_
    obtain ⟨x1, e2, hf⟩ := ob hf
    refine ml_getI dX9_isBarred_4 fl_RX9_340 rfl e2 ?_
    refine mw_icmp_ge (tgt := 58) dX9_isBarred_7 rfl (fun c3 => ?_) (fun c3 => ?_)
    · rw [if_pos c3] at hf
      obtain rfl := y0 hf
      exact MW.sub (subL_n (subL_n (subL_n (subL_n subL_nil)))) (hX58 _ rfl)
    · rw [if_neg c3] at hf
      refine mw_aload_n (x := (some a0)) dX9_isBarred_10 rfl ?_
      refine mw_iload_n (x := v3) dX9_isBarred_11 rfl ?_
      refine mw_iconst (v := 4) dX9_isBarred_12 (by decide) ?_
      refine mw_aload_n (x := (some a0)) dX9_isBarred_13 rfl ?_
      obtain ⟨x4, e5, hf⟩ := ob hf
      refine ml_getQ dX9_isBarred_14 fl_RX9_126 rfl e5 ?_
      refine mw_iload_n (x := v1) dX9_isBarred_17 rfl ?_
      obtain ⟨x6, e7, hf⟩ := ob hf
      refine ml_iald dX9_isBarred_18 e7 ?_
      refine mw_iload_n (x := v2) dX9_isBarred_19 rfl ?_
      obtain ⟨g10, e11, hf⟩ := ob hf
      obtain ⟨x12, h8, e9, hf⟩ := ob1 hf
      refine ml_callV (ci := 8) (mc' := 0) (ms' := 0) [vi v3, vi (4 : Int32), vi x6, vi v2] dX9_isBarred_20 mk_X9_counts lk_RX9_362 im_X9_counts se_X9_counts (by decide) e11 rfl (Nat.le_of_ble_eq_true rfl) (Nat.le_of_ble_eq_true rfl) (t_X9_counts E _ e9 isR_rfl) ?_
      refine mw_if_eq (tgt := 52) dX9_isBarred_23 rfl (fun c13 => ?_) (fun c13 => ?_)
      · rw [if_pos c13] at hf
        refine mw_iinc (x := v3) (v := v3 + 1) dX9_isBarred_52 rfl rfl (by decide) rfl ?_
        refine mw_goto (tgt := 2) dX9_isBarred_55 rfl ?_
        exact MW.sub (subL_s (subL_s (subL_s (subL_s subL_nil)))) (ih _ _ _ _ _ _ hf hX50 hX58)
      · rw [if_neg c13] at hf
        refine mw_aload_n (x := (some a0)) dX9_isBarred_26 rfl ?_
        obtain ⟨x14, e15, hf⟩ := ob hf
        refine ml_getQ dX9_isBarred_27 fl_RX9_129 rfl e15 ?_
        refine mw_iload_n (x := v1) dX9_isBarred_30 rfl ?_
        obtain ⟨x16, e17, hf⟩ := ob hf
        refine ml_iald dX9_isBarred_31 e17 ?_
        refine mw_aload_n (x := (some a0)) dX9_isBarred_32 rfl ?_
        obtain ⟨x18, e19, hf⟩ := ob hf
        refine ml_getQ dX9_isBarred_33 fl_RX9_129 rfl e19 ?_
        refine mw_iload_n (x := v3) dX9_isBarred_36 rfl ?_
        obtain ⟨x20, e21, hf⟩ := ob hf
        refine ml_iald dX9_isBarred_37 e21 ?_
        refine mw_aload_n (x := (some a0)) dX9_isBarred_38 rfl ?_
        obtain ⟨x22, e23, hf⟩ := ob hf
        refine ml_getQ dX9_isBarred_39 fl_RX9_132 rfl e23 ?_
        refine mw_iload_n (x := v3) dX9_isBarred_42 rfl ?_
        obtain ⟨x24, e25, hf⟩ := ob hf
        refine ml_iald dX9_isBarred_43 e25 ?_
        obtain ⟨x28, h26, e27, hf⟩ := ob1 hf
        refine ml_callS (mc' := 0) (ms' := 0) [vi x16, vi x20, vi x24] dX9_isBarred_44 mk_X9_isIn lk_RX9_333 st_X9_isIn rfl (Nat.le_of_ble_eq_true rfl) (Nat.le_of_ble_eq_true rfl) (t_X9_isIn E _ e27 isR_rfl) ?_
        refine mw_if_eq (tgt := 52) dX9_isBarred_47 rfl (fun c29 => ?_) (fun c29 => ?_)
        · rw [if_pos c29] at hf
          refine mw_iinc (x := v3) (v := v3 + 1) dX9_isBarred_52 rfl rfl (by decide) rfl ?_
          refine mw_goto (tgt := 2) dX9_isBarred_55 rfl ?_
          exact MW.sub (subL_s (subL_s (subL_s (subL_s subL_nil)))) (ih _ _ _ _ _ _ hf hX50 hX58)
        · rw [if_neg c29] at hf
          obtain rfl := y0 hf
          exact MW.sub (subL_n (subL_n (subL_n (subL_n subL_nil)))) (hX50 _ rfl)
set_option maxHeartbeats 4000000 in
theorem t_X9_isBarred (E : En) (d : Nat) {mc ms : Nat} {a0 : Nat} {v1 : Int32} {v2 : Int32} {h h' : Hp} {r : Int32} {K : Option Vv → Hp → Prop} (hf : f_X9_isBarred a0 v1 v2 h = some (r, h')) (hk : K (some (vi r)) h') : MC E m_X9_isBarred (d + 1) mc ms [vq (some a0), vi v1, vi v2] h K := by
  unfold f_X9_isBarred at hf
  show MW E m_X9_isBarred (d + 1) mc ms 0 [some (vq (some a0)), some (vi v1), some (vi v2), none] [] h K
  refine mw_iconst (v := 0) dX9_isBarred_0 (by decide) ?_
  refine mw_istore_n dX9_isBarred_1 (by decide) rfl ?_
  obtain ⟨o33, e32, hf⟩ := ob hf
  rcases o33 with h30 | h31
  · have HX : MW E m_X9_isBarred (d + 1) mc ms 50 [none, none, none, none] [] h30 K := by
      refine mw_iconst (v := 1) dX9_isBarred_50 (by decide) ?_
      obtain ⟨rfl, rfl⟩ := y1 hf
      exact mw_ireturn dX9_isBarred_51 rfl rfl hk
    exact MW.sub (subL_s (subL_s (subL_s (subL_s subL_nil)))) (tl_X9_isBarred_2 E d _ _ _ _ _ _ _ e32 (fun _ q => by cases q; exact HX) (fun _ q => by cases q))
  · have HX : MW E m_X9_isBarred (d + 1) mc ms 58 [none, none, none, none] [] h31 K := by
      refine mw_iconst (v := 0) dX9_isBarred_58 (by decide) ?_
      obtain ⟨rfl, rfl⟩ := y1 hf
      exact mw_ireturn dX9_isBarred_59 rfl rfl hk
    exact MW.sub (subL_s (subL_s (subL_s (subL_s subL_nil)))) (tl_X9_isBarred_2 E d _ _ _ _ _ _ _ e32 (fun _ q => by cases q) (fun _ q => by cases q; exact HX))
def f_X9_owedOf (a0 : Nat) (v1 : Int32) (v2 : Int32) (v3 : Int32) (h : Hp) : Option (Int32 × Hp) :=
  (rc h (some a0) 8).bind fun g3 =>
  (f_X9_averageOf g3 v1 v2 h).bind fun h1 =>
  (getI h1 (some a0) 8 56).bind fun x5 =>
  (getQ h1 (some a0) 8 35).bind fun x7 =>
  (rdI h1 x7 10 v2).bind fun x9 =>
  (getQ h1 (some a0) 8 11).bind fun x11 =>
  (rdI h1 x11 10 (((7 : Int32) * v1) + (2 : Int32))).bind fun x13 =>
  (dvI (x5 * x9) x13).bind fun x15 =>
  (getQ h1 (some a0) 8 36).bind fun x17 =>
  (rdI h1 x17 10 v2).bind fun x19 =>
  b1 ((if (x15 - x19) ≤ (0 : Int32) then
      some (0, h1)
    else
      (rc h1 (some a0) 8).bind fun g30 =>
      b1 (f_X9_isBarred g30 v2 v3 h1) fun x32 h28 =>
      if x32 = (0 : Int32) then
        some ((x15 - x19), h28)
      else
        some (0, h28) : Option (Int32 × Hp))) fun w34 h35 =>
  some (w34, h35)
set_option maxHeartbeats 4000000 in
theorem t_X9_owedOf (E : En) (d : Nat) {mc ms : Nat} {a0 : Nat} {v1 : Int32} {v2 : Int32} {v3 : Int32} {h h' : Hp} {r : Int32} {K : Option Vv → Hp → Prop} (hf : f_X9_owedOf a0 v1 v2 v3 h = some (r, h')) (hk : K (some (vi r)) h') : MC E m_X9_owedOf (d + 2) mc ms [vq (some a0), vi v1, vi v2, vi v3] h K := by
  unfold f_X9_owedOf at hf
  show MW E m_X9_owedOf (d + 2) mc ms 0 [some (vq (some a0)), some (vi v1), some (vi v2), some (vi v3), none] [] h K
  refine mw_aload_n (x := (some a0)) dX9_owedOf_0 rfl ?_
  refine mw_iload_n (x := v1) dX9_owedOf_1 rfl ?_
  refine mw_iload_n (x := v2) dX9_owedOf_2 rfl ?_
  obtain ⟨g3, e4, hf⟩ := ob hf
  obtain ⟨h1, e2, hf⟩ := ob hf
  refine ml_callV (ci := 8) (mc' := 0) (ms' := 0) [vi v1, vi v2] dX9_owedOf_3 mk_X9_averageOf lk_RX9_438 im_X9_averageOf se_X9_averageOf (by decide) e4 rfl (Nat.le_of_ble_eq_true rfl) (Nat.le_of_ble_eq_true rfl) (t_X9_averageOf E _ e2 isR_rfl) ?_
  refine mw_aload_n (x := (some a0)) dX9_owedOf_6 rfl ?_
  obtain ⟨x5, e6, hf⟩ := ob hf
  refine ml_getI dX9_owedOf_7 fl_RX9_435 rfl e6 ?_
  refine mw_aload_n (x := (some a0)) dX9_owedOf_10 rfl ?_
  obtain ⟨x7, e8, hf⟩ := ob hf
  refine ml_getQ dX9_owedOf_11 fl_RX9_132 rfl e8 ?_
  refine mw_iload_n (x := v2) dX9_owedOf_14 rfl ?_
  obtain ⟨x9, e10, hf⟩ := ob hf
  refine ml_iald dX9_owedOf_15 e10 ?_
  refine mw_imul dX9_owedOf_16 ?_
  refine mw_aload_n (x := (some a0)) dX9_owedOf_17 rfl ?_
  obtain ⟨x11, e12, hf⟩ := ob hf
  refine ml_getQ dX9_owedOf_18 fl_RX9_62 rfl e12 ?_
  refine mw_bipush (v := 7) dX9_owedOf_21 (by decide) ?_
  refine mw_iload_n (x := v1) dX9_owedOf_23 rfl ?_
  refine mw_imul dX9_owedOf_24 ?_
  refine mw_iconst (v := 2) dX9_owedOf_25 (by decide) ?_
  refine mw_iadd dX9_owedOf_26 ?_
  obtain ⟨x13, e14, hf⟩ := ob hf
  refine ml_iald dX9_owedOf_27 e14 ?_
  obtain ⟨x15, e16, hf⟩ := ob hf
  refine ml_idiv dX9_owedOf_28 e16 ?_
  refine mw_aload_n (x := (some a0)) dX9_owedOf_29 rfl ?_
  obtain ⟨x17, e18, hf⟩ := ob hf
  refine ml_getQ dX9_owedOf_30 fl_RX9_135 rfl e18 ?_
  refine mw_iload_n (x := v2) dX9_owedOf_33 rfl ?_
  obtain ⟨x19, e20, hf⟩ := ob hf
  refine ml_iald dX9_owedOf_34 e20 ?_
  refine mw_isub dX9_owedOf_35 ?_
  refine mw_istore dX9_owedOf_36 (by decide) rfl ?_
  refine mw_iload (x := (x15 - x19)) dX9_owedOf_38 rfl ?_
  obtain ⟨w34, h35, r36, hf⟩ := ob1 hf
  have J37 : MW E m_X9_owedOf (d + 2) mc ms 58 [none, none, none, none, none] [vi w34] h35 K := by
    obtain ⟨rfl, rfl⟩ := y1 hf
    exact mw_ireturn dX9_owedOf_58 rfl rfl hk
  refine mw_if_le (tgt := 52) dX9_owedOf_40 rfl (fun c21 => ?_) (fun c21 => ?_)
  · rw [if_pos c21] at r36
    refine mw_iconst (v := 0) dX9_owedOf_52 (by decide) ?_
    refine mw_goto (tgt := 58) dX9_owedOf_53 rfl ?_
    obtain ⟨rfl, rfl⟩ := y1 r36
    exact MW.sub (subL_n (subL_n (subL_n (subL_n (subL_n subL_nil))))) J37
  · rw [if_neg c21] at r36
    refine mw_aload_n (x := (some a0)) dX9_owedOf_43 rfl ?_
    refine mw_iload_n (x := v2) dX9_owedOf_44 rfl ?_
    refine mw_iload_n (x := v3) dX9_owedOf_45 rfl ?_
    obtain ⟨g30, e31, r36⟩ := ob r36
    obtain ⟨x32, h28, e29, r36⟩ := ob1 r36
    refine ml_callV (ci := 8) (mc' := 0) (ms' := 0) [vi v2, vi v3] dX9_owedOf_46 mk_X9_isBarred lk_RX9_441 im_X9_isBarred se_X9_isBarred (by decide) e31 rfl (Nat.le_of_ble_eq_true rfl) (Nat.le_of_ble_eq_true rfl) (t_X9_isBarred E _ e29 isR_rfl) ?_
    refine mw_if_eq (tgt := 56) dX9_owedOf_49 rfl (fun c33 => ?_) (fun c33 => ?_)
    · rw [if_pos c33] at r36
      refine mw_iload (x := (x15 - x19)) dX9_owedOf_56 rfl ?_
      obtain ⟨rfl, rfl⟩ := y1 r36
      exact MW.sub (subL_n (subL_n (subL_n (subL_n (subL_n subL_nil))))) J37
    · rw [if_neg c33] at r36
      refine mw_iconst (v := 0) dX9_owedOf_52 (by decide) ?_
      refine mw_goto (tgt := 58) dX9_owedOf_53 rfl ?_
      obtain ⟨rfl, rfl⟩ := y1 r36
      exact MW.sub (subL_n (subL_n (subL_n (subL_n (subL_n subL_nil))))) J37
