set_option maxRecDepth 20000 in
theorem fl_RX8_10 : Fl RX8 10 7 0 := ⟨by decide, by decide, wG_of (List.mem_append_right _ (List.mem_of_getElem? (i := 229) (by decide +kernel))) rfl⟩
set_option maxRecDepth 20000 in
theorem fl_RX8_18 : Fl RX8 18 7 1 := ⟨by decide, by decide, wG_of (List.mem_append_right _ (List.mem_of_getElem? (i := 230) (by decide +kernel))) rfl⟩
set_option maxRecDepth 20000 in
theorem fl_RX8_24 : Fl RX8 24 7 2 := ⟨by decide, by decide, wG_of (List.mem_append_right _ (List.mem_of_getElem? (i := 231) (by decide +kernel))) rfl⟩
set_option maxRecDepth 20000 in
theorem fl_RX8_30 : Fl RX8 30 7 4 := ⟨by decide, by decide, wG_of (List.mem_append_right _ (List.mem_of_getElem? (i := 233) (by decide +kernel))) rfl⟩
set_option maxRecDepth 20000 in
theorem fl_RX8_37 : Fl RX8 37 7 7 := ⟨by decide, by decide, wG_of (List.mem_append_right _ (List.mem_of_getElem? (i := 236) (by decide +kernel))) rfl⟩
set_option maxRecDepth 20000 in
theorem fl_RX8_44 : Fl RX8 44 7 8 := ⟨by decide, by decide, wG_of (List.mem_append_right _ (List.mem_of_getElem? (i := 237) (by decide +kernel))) rfl⟩
set_option maxRecDepth 20000 in
theorem fl_RX8_48 : Fl RX8 48 7 9 := ⟨by decide, by decide, wG_of (List.mem_append_right _ (List.mem_of_getElem? (i := 238) (by decide +kernel))) rfl⟩
set_option maxRecDepth 20000 in
theorem fl_RX8_52 : Fl RX8 52 7 10 := ⟨by decide, by decide, wG_of (List.mem_append_right _ (List.mem_of_getElem? (i := 239) (by decide +kernel))) rfl⟩
set_option maxRecDepth 20000 in
theorem fl_RX8_56 : Fl RX8 56 7 11 := ⟨by decide, by decide, wG_of (List.mem_append_right _ (List.mem_of_getElem? (i := 240) (by decide +kernel))) rfl⟩
set_option maxRecDepth 20000 in
theorem fl_RX8_60 : Fl RX8 60 2 1 := ⟨by decide, by decide, wG_of (List.mem_append_right _ (List.mem_of_getElem? (i := 34) (by decide +kernel))) rfl⟩
set_option maxRecDepth 20000 in
theorem fl_RX8_72 : Fl RX8 72 2 12 := ⟨by decide, by decide, wG_of (List.mem_append_right _ (List.mem_of_getElem? (i := 47) (by decide +kernel))) rfl⟩
set_option maxRecDepth 20000 in
theorem fl_RX8_75 : Fl RX8 75 0 5 := ⟨by decide, by decide, wG_of (List.mem_append_right _ (List.mem_of_getElem? (i := 157) (by decide +kernel))) rfl⟩
set_option maxRecDepth 20000 in
theorem fl_RX8_78 : Fl RX8 78 2 13 := ⟨by decide, by decide, wG_of (List.mem_append_right _ (List.mem_of_getElem? (i := 49) (by decide +kernel))) rfl⟩
set_option maxRecDepth 20000 in
theorem fl_RX8_85 : Fl RX8 85 7 3 := ⟨by decide, by decide, wG_of (List.mem_append_right _ (List.mem_of_getElem? (i := 232) (by decide +kernel))) rfl⟩
set_option maxRecDepth 20000 in
theorem fl_RX8_104 : Fl RX8 104 6 4 := ⟨by decide, by decide, wG_of (List.mem_append_right _ (List.mem_of_getElem? (i := 560) (by decide +kernel))) rfl⟩
set_option maxRecDepth 20000 in
theorem fl_RX8_111 : Fl RX8 111 7 5 := ⟨by decide, by decide, wG_of (List.mem_append_right _ (List.mem_of_getElem? (i := 234) (by decide +kernel))) rfl⟩
set_option maxRecDepth 20000 in
theorem fl_RX8_114 : Fl RX8 114 7 6 := ⟨by decide, by decide, wG_of (List.mem_append_right _ (List.mem_of_getElem? (i := 235) (by decide +kernel))) rfl⟩
set_option maxRecDepth 20000 in
theorem fl_RX8_120 : Fl RX8 120 1 6 := ⟨by decide, by decide, wG_of (List.mem_append_right _ (List.mem_of_getElem? (i := 644) (by decide +kernel))) rfl⟩
set_option maxRecDepth 20000 in
theorem fl_RX8_127 : Fl RX8 127 1 0 := ⟨by decide, by decide, wG_of (List.mem_append_right _ (List.mem_of_getElem? (i := 624) (by decide +kernel))) rfl⟩
set_option maxRecDepth 20000 in
theorem fl_RX8_134 : Fl RX8 134 1 7 := ⟨by decide, by decide, wG_of (List.mem_append_right _ (List.mem_of_getElem? (i := 646) (by decide +kernel))) rfl⟩
set_option maxRecDepth 20000 in
theorem fl_RX8_137 : Fl RX8 137 6 5 := ⟨by decide, by decide, wG_of (List.mem_append_right _ (List.mem_of_getElem? (i := 562) (by decide +kernel))) rfl⟩
set_option maxRecDepth 20000 in
theorem fl_RX8_146 : Fl RX8 146 6 10 := ⟨by decide, by decide, wG_of (List.mem_append_right _ (List.mem_of_getElem? (i := 575) (by decide +kernel))) rfl⟩
set_option maxRecDepth 20000 in
theorem fl_RX8_149 : Fl RX8 149 6 9 := ⟨by decide, by decide, wG_of (List.mem_append_right _ (List.mem_of_getElem? (i := 571) (by decide +kernel))) rfl⟩
set_option maxRecDepth 20000 in
theorem fl_RX8_156 : Fl RX8 156 6 11 := ⟨by decide, by decide, wG_of (List.mem_append_right _ (List.mem_of_getElem? (i := 577) (by decide +kernel))) rfl⟩
set_option maxRecDepth 20000 in
theorem fl_RX8_174 : Fl RX8 174 1 2 := ⟨by decide, by decide, wG_of (List.mem_append_right _ (List.mem_of_getElem? (i := 634) (by decide +kernel))) rfl⟩
set_option maxRecDepth 20000 in
theorem fl_RX8_180 : Fl RX8 180 4 9 := ⟨by decide, by decide, wG_of (List.mem_append_right _ (List.mem_of_getElem? (i := 182) (by decide +kernel))) rfl⟩
set_option maxRecDepth 20000 in
theorem fl_RX8_194 : Fl RX8 194 4 14 := ⟨by decide, by decide, wG_of (List.mem_append_right _ (List.mem_of_getElem? (i := 188) (by decide +kernel))) rfl⟩
set_option maxRecDepth 20000 in
theorem fl_RX8_212 : Fl RX8 212 4 15 := ⟨by decide, by decide, wG_of (List.mem_append_right _ (List.mem_of_getElem? (i := 190) (by decide +kernel))) rfl⟩
set_option maxRecDepth 20000 in
theorem fl_RX8_226 : Fl RX8 226 4 16 := ⟨by decide, by decide, wG_of (List.mem_append_right _ (List.mem_of_getElem? (i := 192) (by decide +kernel))) rfl⟩
set_option maxRecDepth 20000 in
theorem fl_RX8_232 : Fl RX8 232 7 12 := ⟨by decide, by decide, wG_of (List.mem_append_right _ (List.mem_of_getElem? (i := 241) (by decide +kernel))) rfl⟩
set_option maxRecDepth 20000 in
theorem fl_RX8_235 : Fl RX8 235 1 1 := ⟨by decide, by decide, wG_of (List.mem_append_right _ (List.mem_of_getElem? (i := 629) (by decide +kernel))) rfl⟩
set_option maxRecDepth 20000 in
theorem fl_RX0_11 : Fl RX0 11 0 0 := ⟨by decide, by decide, wG_of (List.mem_append_right _ (List.mem_of_getElem? (i := 144) (by decide +kernel))) rfl⟩
set_option maxRecDepth 20000 in
theorem fl_RX0_15 : Fl RX0 15 0 2 := ⟨by decide, by decide, wG_of (List.mem_append_right _ (List.mem_of_getElem? (i := 149) (by decide +kernel))) rfl⟩
set_option maxRecDepth 20000 in
theorem fl_RX0_19 : Fl RX0 19 0 4 := ⟨by decide, by decide, wG_of (List.mem_append_right _ (List.mem_of_getElem? (i := 154) (by decide +kernel))) rfl⟩
set_option maxRecDepth 20000 in
theorem fl_RX0_22 : Fl RX0 22 0 1 := ⟨by decide, by decide, wG_of (List.mem_append_right _ (List.mem_of_getElem? (i := 146) (by decide +kernel))) rfl⟩
set_option maxRecDepth 20000 in
theorem fl_RX1_9 : Fl RX1 9 1 7 := ⟨by decide, by decide, wG_of (List.mem_append_right _ (List.mem_of_getElem? (i := 645) (by decide +kernel))) rfl⟩
set_option maxRecDepth 20000 in
theorem fl_RX1_15 : Fl RX1 15 1 0 := ⟨by decide, by decide, wG_of (List.mem_append_right _ (List.mem_of_getElem? (i := 623) (by decide +kernel))) rfl⟩
set_option maxRecDepth 20000 in
theorem fl_RX1_18 : Fl RX1 18 1 1 := ⟨by decide, by decide, wG_of (List.mem_append_right _ (List.mem_of_getElem? (i := 625) (by decide +kernel))) rfl⟩
set_option maxRecDepth 20000 in
theorem fl_RX1_21 : Fl RX1 21 1 2 := ⟨by decide, by decide, wG_of (List.mem_append_right _ (List.mem_of_getElem? (i := 630) (by decide +kernel))) rfl⟩
set_option maxRecDepth 20000 in
theorem fl_RX1_24 : Fl RX1 24 1 3 := ⟨by decide, by decide, wG_of (List.mem_append_right _ (List.mem_of_getElem? (i := 635) (by decide +kernel))) rfl⟩
set_option maxRecDepth 20000 in
theorem fl_RX1_27 : Fl RX1 27 1 4 := ⟨by decide, by decide, wG_of (List.mem_append_right _ (List.mem_of_getElem? (i := 639) (by decide +kernel))) rfl⟩
set_option maxRecDepth 20000 in
theorem fl_RX1_30 : Fl RX1 30 1 5 := ⟨by decide, by decide, wG_of (List.mem_append_right _ (List.mem_of_getElem? (i := 643) (by decide +kernel))) rfl⟩
set_option maxRecDepth 20000 in
theorem fl_RX2_9 : Fl RX2 9 2 0 := ⟨by decide, by decide, wG_of (List.mem_append_right _ (List.mem_of_getElem? (i := 33) (by decide +kernel))) rfl⟩
set_option maxRecDepth 20000 in
theorem fl_RX2_15 : Fl RX2 15 2 3 := ⟨by decide, by decide, wG_of (List.mem_append_right _ (List.mem_of_getElem? (i := 37) (by decide +kernel))) rfl⟩
set_option maxRecDepth 20000 in
theorem fl_RX2_19 : Fl RX2 19 2 4 := ⟨by decide, by decide, wG_of (List.mem_append_right _ (List.mem_of_getElem? (i := 38) (by decide +kernel))) rfl⟩
set_option maxRecDepth 20000 in
theorem fl_RX2_22 : Fl RX2 22 2 8 := ⟨by decide, by decide, wG_of (List.mem_append_right _ (List.mem_of_getElem? (i := 42) (by decide +kernel))) rfl⟩
set_option maxRecDepth 20000 in
theorem fl_RX2_25 : Fl RX2 25 2 12 := ⟨by decide, by decide, wG_of (List.mem_append_right _ (List.mem_of_getElem? (i := 46) (by decide +kernel))) rfl⟩
set_option maxRecDepth 20000 in
theorem fl_RX2_29 : Fl RX2 29 2 13 := ⟨by decide, by decide, wG_of (List.mem_append_right _ (List.mem_of_getElem? (i := 48) (by decide +kernel))) rfl⟩
set_option maxRecDepth 20000 in
theorem fl_RX2_32 : Fl RX2 32 2 1 := ⟨by decide, by decide, wG_of (List.mem_append_right _ (List.mem_of_getElem? (i := 35) (by decide +kernel))) rfl⟩
set_option maxRecDepth 20000 in
theorem fl_RX2_38 : Fl RX2 38 2 10 := ⟨by decide, by decide, wG_of (List.mem_append_right _ (List.mem_of_getElem? (i := 44) (by decide +kernel))) rfl⟩
set_option maxRecDepth 20000 in
theorem fl_RX2_41 : Fl RX2 41 2 11 := ⟨by decide, by decide, wG_of (List.mem_append_right _ (List.mem_of_getElem? (i := 45) (by decide +kernel))) rfl⟩
set_option maxRecDepth 20000 in
theorem fl_RX2_44 : Fl RX2 44 2 6 := ⟨by decide, by decide, wG_of (List.mem_append_right _ (List.mem_of_getElem? (i := 40) (by decide +kernel))) rfl⟩
set_option maxRecDepth 20000 in
theorem fl_RX2_53 : Fl RX2 53 2 7 := ⟨by decide, by decide, wG_of (List.mem_append_right _ (List.mem_of_getElem? (i := 41) (by decide +kernel))) rfl⟩
set_option maxRecDepth 20000 in
theorem fl_RX2_63 : Fl RX2 63 0 5 := ⟨by decide, by decide, wG_of (List.mem_append_right _ (List.mem_of_getElem? (i := 156) (by decide +kernel))) rfl⟩
set_option maxRecDepth 20000 in
theorem fl_RX2_66 : Fl RX2 66 2 2 := ⟨by decide, by decide, wG_of (List.mem_append_right _ (List.mem_of_getElem? (i := 36) (by decide +kernel))) rfl⟩
set_option maxRecDepth 20000 in
theorem fl_RX2_69 : Fl RX2 69 2 5 := ⟨by decide, by decide, wG_of (List.mem_append_right _ (List.mem_of_getElem? (i := 39) (by decide +kernel))) rfl⟩
set_option maxRecDepth 20000 in
theorem fl_RX2_116 : Fl RX2 116 0 1 := ⟨by decide, by decide, wG_of (List.mem_append_right _ (List.mem_of_getElem? (i := 148) (by decide +kernel))) rfl⟩
set_option maxRecDepth 20000 in
theorem fl_RX2_143 : Fl RX2 143 0 2 := ⟨by decide, by decide, wG_of (List.mem_append_right _ (List.mem_of_getElem? (i := 151) (by decide +kernel))) rfl⟩
set_option maxRecDepth 20000 in
theorem fl_RX2_146 : Fl RX2 146 0 3 := ⟨by decide, by decide, wG_of (List.mem_append_right _ (List.mem_of_getElem? (i := 153) (by decide +kernel))) rfl⟩
set_option maxRecDepth 20000 in
theorem fl_RX2_160 : Fl RX2 160 0 4 := ⟨by decide, by decide, wG_of (List.mem_append_right _ (List.mem_of_getElem? (i := 155) (by decide +kernel))) rfl⟩
set_option maxRecDepth 20000 in
theorem fl_RX2_170 : Fl RX2 170 2 9 := ⟨by decide, by decide, wG_of (List.mem_append_right _ (List.mem_of_getElem? (i := 43) (by decide +kernel))) rfl⟩
set_option maxRecDepth 20000 in
theorem fl_RX3_7 : Fl RX3 7 3 0 := ⟨by decide, by decide, wG_of (List.mem_append_right _ (List.mem_of_getElem? (i := 510) (by decide +kernel))) rfl⟩
set_option maxRecDepth 20000 in
theorem fl_RX3_13 : Fl RX3 13 3 1 := ⟨by decide, by decide, wG_of (List.mem_append_right _ (List.mem_of_getElem? (i := 512) (by decide +kernel))) rfl⟩
set_option maxRecDepth 20000 in
theorem fl_RX3_16 : Fl RX3 16 3 2 := ⟨by decide, by decide, wG_of (List.mem_append_right _ (List.mem_of_getElem? (i := 514) (by decide +kernel))) rfl⟩
set_option maxRecDepth 20000 in
theorem fl_RX4_12 : Fl RX4 12 4 0 := ⟨by decide, by decide, wG_of (List.mem_append_right _ (List.mem_of_getElem? (i := 172) (by decide +kernel))) rfl⟩
set_option maxRecDepth 20000 in
theorem fl_RX4_18 : Fl RX4 18 4 4 := ⟨by decide, by decide, wG_of (List.mem_append_right _ (List.mem_of_getElem? (i := 176) (by decide +kernel))) rfl⟩
set_option maxRecDepth 20000 in
theorem fl_RX4_22 : Fl RX4 22 4 5 := ⟨by decide, by decide, wG_of (List.mem_append_right _ (List.mem_of_getElem? (i := 177) (by decide +kernel))) rfl⟩
set_option maxRecDepth 20000 in
theorem fl_RX4_25 : Fl RX4 25 4 6 := ⟨by decide, by decide, wG_of (List.mem_append_right _ (List.mem_of_getElem? (i := 178) (by decide +kernel))) rfl⟩
set_option maxRecDepth 20000 in
theorem fl_RX4_28 : Fl RX4 28 4 7 := ⟨by decide, by decide, wG_of (List.mem_append_right _ (List.mem_of_getElem? (i := 179) (by decide +kernel))) rfl⟩
set_option maxRecDepth 20000 in
theorem fl_RX4_31 : Fl RX4 31 4 8 := ⟨by decide, by decide, wG_of (List.mem_append_right _ (List.mem_of_getElem? (i := 180) (by decide +kernel))) rfl⟩
set_option maxRecDepth 20000 in
theorem fl_RX4_36 : Fl RX4 36 4 11 := ⟨by decide, by decide, wG_of (List.mem_append_right _ (List.mem_of_getElem? (i := 184) (by decide +kernel))) rfl⟩
set_option maxRecDepth 20000 in
theorem fl_RX4_40 : Fl RX4 40 6 2 := ⟨by decide, by decide, wG_of (List.mem_append_right _ (List.mem_of_getElem? (i := 556) (by decide +kernel))) rfl⟩
set_option maxRecDepth 20000 in
theorem fl_RX4_46 : Fl RX4 46 4 1 := ⟨by decide, by decide, wG_of (List.mem_append_right _ (List.mem_of_getElem? (i := 173) (by decide +kernel))) rfl⟩
set_option maxRecDepth 20000 in
theorem fl_RX4_47 : Fl RX4 47 6 0 := ⟨by decide, by decide, wG_of (List.mem_append_right _ (List.mem_of_getElem? (i := 553) (by decide +kernel))) rfl⟩
set_option maxRecDepth 20000 in
theorem fl_RX4_51 : Fl RX4 51 4 2 := ⟨by decide, by decide, wG_of (List.mem_append_right _ (List.mem_of_getElem? (i := 174) (by decide +kernel))) rfl⟩
set_option maxRecDepth 20000 in
theorem fl_RX4_52 : Fl RX4 52 6 1 := ⟨by decide, by decide, wG_of (List.mem_append_right _ (List.mem_of_getElem? (i := 555) (by decide +kernel))) rfl⟩
set_option maxRecDepth 20000 in
theorem fl_RX4_55 : Fl RX4 55 4 3 := ⟨by decide, by decide, wG_of (List.mem_append_right _ (List.mem_of_getElem? (i := 175) (by decide +kernel))) rfl⟩
set_option maxRecDepth 20000 in
theorem fl_RX4_56 : Fl RX4 56 6 7 := ⟨by decide, by decide, wG_of (List.mem_append_right _ (List.mem_of_getElem? (i := 565) (by decide +kernel))) rfl⟩
set_option maxRecDepth 20000 in
theorem fl_RX4_63 : Fl RX4 63 6 10 := ⟨by decide, by decide, wG_of (List.mem_append_right _ (List.mem_of_getElem? (i := 573) (by decide +kernel))) rfl⟩
set_option maxRecDepth 20000 in
theorem fl_RX4_66 : Fl RX4 66 6 9 := ⟨by decide, by decide, wG_of (List.mem_append_right _ (List.mem_of_getElem? (i := 569) (by decide +kernel))) rfl⟩
set_option maxRecDepth 20000 in
theorem fl_RX4_79 : Fl RX4 79 0 1 := ⟨by decide, by decide, wG_of (List.mem_append_right _ (List.mem_of_getElem? (i := 147) (by decide +kernel))) rfl⟩
set_option maxRecDepth 20000 in
theorem fl_RX4_82 : Fl RX4 82 0 0 := ⟨by decide, by decide, wG_of (List.mem_append_right _ (List.mem_of_getElem? (i := 145) (by decide +kernel))) rfl⟩
set_option maxRecDepth 20000 in
theorem fl_RX4_86 : Fl RX4 86 3 0 := ⟨by decide, by decide, wG_of (List.mem_append_right _ (List.mem_of_getElem? (i := 511) (by decide +kernel))) rfl⟩
set_option maxRecDepth 20000 in
theorem fl_RX4_95 : Fl RX4 95 3 2 := ⟨by decide, by decide, wG_of (List.mem_append_right _ (List.mem_of_getElem? (i := 515) (by decide +kernel))) rfl⟩
set_option maxRecDepth 20000 in
theorem fl_RX4_101 : Fl RX4 101 3 1 := ⟨by decide, by decide, wG_of (List.mem_append_right _ (List.mem_of_getElem? (i := 513) (by decide +kernel))) rfl⟩
set_option maxRecDepth 20000 in
theorem fl_RX4_104 : Fl RX4 104 0 3 := ⟨by decide, by decide, wG_of (List.mem_append_right _ (List.mem_of_getElem? (i := 152) (by decide +kernel))) rfl⟩
set_option maxRecDepth 20000 in
theorem fl_RX4_108 : Fl RX4 108 0 2 := ⟨by decide, by decide, wG_of (List.mem_append_right _ (List.mem_of_getElem? (i := 150) (by decide +kernel))) rfl⟩
set_option maxRecDepth 20000 in
theorem fl_RX4_135 : Fl RX4 135 4 9 := ⟨by decide, by decide, wG_of (List.mem_append_right _ (List.mem_of_getElem? (i := 181) (by decide +kernel))) rfl⟩
set_option maxRecDepth 20000 in
theorem fl_RX4_138 : Fl RX4 138 4 10 := ⟨by decide, by decide, wG_of (List.mem_append_right _ (List.mem_of_getElem? (i := 183) (by decide +kernel))) rfl⟩
set_option maxRecDepth 20000 in
theorem fl_RX4_147 : Fl RX4 147 1 1 := ⟨by decide, by decide, wG_of (List.mem_append_right _ (List.mem_of_getElem? (i := 628) (by decide +kernel))) rfl⟩
set_option maxRecDepth 20000 in
theorem fl_RX4_153 : Fl RX4 153 1 2 := ⟨by decide, by decide, wG_of (List.mem_append_right _ (List.mem_of_getElem? (i := 633) (by decide +kernel))) rfl⟩
set_option maxRecDepth 20000 in
theorem fl_RX4_156 : Fl RX4 156 1 3 := ⟨by decide, by decide, wG_of (List.mem_append_right _ (List.mem_of_getElem? (i := 638) (by decide +kernel))) rfl⟩
set_option maxRecDepth 20000 in
theorem fl_RX4_163 : Fl RX4 163 1 8 := ⟨by decide, by decide, wG_of (List.mem_append_right _ (List.mem_of_getElem? (i := 649) (by decide +kernel))) rfl⟩
set_option maxRecDepth 20000 in
theorem fl_RX4_169 : Fl RX4 169 1 4 := ⟨by decide, by decide, wG_of (List.mem_append_right _ (List.mem_of_getElem? (i := 642) (by decide +kernel))) rfl⟩
set_option maxRecDepth 20000 in
theorem fl_RX4_172 : Fl RX4 172 4 12 := ⟨by decide, by decide, wG_of (List.mem_append_right _ (List.mem_of_getElem? (i := 185) (by decide +kernel))) rfl⟩
set_option maxRecDepth 20000 in
theorem fl_RX4_179 : Fl RX4 179 1 9 := ⟨by decide, by decide, wG_of (List.mem_append_right _ (List.mem_of_getElem? (i := 650) (by decide +kernel))) rfl⟩
set_option maxRecDepth 20000 in
theorem fl_RX4_182 : Fl RX4 182 1 10 := ⟨by decide, by decide, wG_of (List.mem_append_right _ (List.mem_of_getElem? (i := 651) (by decide +kernel))) rfl⟩
set_option maxRecDepth 20000 in
theorem fl_RX4_185 : Fl RX4 185 1 11 := ⟨by decide, by decide, wG_of (List.mem_append_right _ (List.mem_of_getElem? (i := 652) (by decide +kernel))) rfl⟩
set_option maxRecDepth 20000 in
theorem fl_RX4_192 : Fl RX4 192 4 14 := ⟨by decide, by decide, wG_of (List.mem_append_right _ (List.mem_of_getElem? (i := 187) (by decide +kernel))) rfl⟩
set_option maxRecDepth 20000 in
theorem fl_RX4_199 : Fl RX4 199 4 13 := ⟨by decide, by decide, wG_of (List.mem_append_right _ (List.mem_of_getElem? (i := 186) (by decide +kernel))) rfl⟩
set_option maxRecDepth 20000 in
theorem fl_RX4_215 : Fl RX4 215 4 15 := ⟨by decide, by decide, wG_of (List.mem_append_right _ (List.mem_of_getElem? (i := 189) (by decide +kernel))) rfl⟩
set_option maxRecDepth 20000 in
theorem fl_RX4_219 : Fl RX4 219 4 16 := ⟨by decide, by decide, wG_of (List.mem_append_right _ (List.mem_of_getElem? (i := 191) (by decide +kernel))) rfl⟩
set_option maxRecDepth 20000 in
theorem fl_RX6_9 : Fl RX6 9 5 0 := ⟨by decide, by decide, wG_of (List.mem_append_right _ (List.mem_of_getElem? (i := 93) (by decide +kernel))) rfl⟩
set_option maxRecDepth 20000 in
theorem fl_RX6_15 : Fl RX6 15 5 1 := ⟨by decide, by decide, wG_of (List.mem_append_right _ (List.mem_of_getElem? (i := 94) (by decide +kernel))) rfl⟩
set_option maxRecDepth 20000 in
theorem fl_RX6_18 : Fl RX6 18 5 2 := ⟨by decide, by decide, wG_of (List.mem_append_right _ (List.mem_of_getElem? (i := 95) (by decide +kernel))) rfl⟩
set_option maxRecDepth 20000 in
theorem fl_RX6_21 : Fl RX6 21 5 4 := ⟨by decide, by decide, wG_of (List.mem_append_right _ (List.mem_of_getElem? (i := 97) (by decide +kernel))) rfl⟩
set_option maxRecDepth 20000 in
theorem fl_RX6_24 : Fl RX6 24 5 5 := ⟨by decide, by decide, wG_of (List.mem_append_right _ (List.mem_of_getElem? (i := 98) (by decide +kernel))) rfl⟩
set_option maxRecDepth 20000 in
theorem fl_RX6_27 : Fl RX6 27 5 6 := ⟨by decide, by decide, wG_of (List.mem_append_right _ (List.mem_of_getElem? (i := 99) (by decide +kernel))) rfl⟩
set_option maxRecDepth 20000 in
theorem fl_RX6_30 : Fl RX6 30 5 9 := ⟨by decide, by decide, wG_of (List.mem_append_right _ (List.mem_of_getElem? (i := 102) (by decide +kernel))) rfl⟩
set_option maxRecDepth 20000 in
theorem fl_RX6_33 : Fl RX6 33 5 10 := ⟨by decide, by decide, wG_of (List.mem_append_right _ (List.mem_of_getElem? (i := 103) (by decide +kernel))) rfl⟩
set_option maxRecDepth 20000 in
theorem fl_RX6_36 : Fl RX6 36 5 11 := ⟨by decide, by decide, wG_of (List.mem_append_right _ (List.mem_of_getElem? (i := 104) (by decide +kernel))) rfl⟩
set_option maxRecDepth 20000 in
theorem fl_RX6_47 : Fl RX6 47 5 3 := ⟨by decide, by decide, wG_of (List.mem_append_right _ (List.mem_of_getElem? (i := 96) (by decide +kernel))) rfl⟩
set_option maxRecDepth 20000 in
theorem fl_RX6_72 : Fl RX6 72 6 2 := ⟨by decide, by decide, wG_of (List.mem_append_right _ (List.mem_of_getElem? (i := 558) (by decide +kernel))) rfl⟩
set_option maxRecDepth 20000 in
theorem fl_RX6_78 : Fl RX6 78 1 1 := ⟨by decide, by decide, wG_of (List.mem_append_right _ (List.mem_of_getElem? (i := 626) (by decide +kernel))) rfl⟩
set_option maxRecDepth 20000 in
theorem fl_RX6_87 : Fl RX6 87 1 2 := ⟨by decide, by decide, wG_of (List.mem_append_right _ (List.mem_of_getElem? (i := 631) (by decide +kernel))) rfl⟩
set_option maxRecDepth 20000 in
theorem fl_RX6_90 : Fl RX6 90 1 3 := ⟨by decide, by decide, wG_of (List.mem_append_right _ (List.mem_of_getElem? (i := 636) (by decide +kernel))) rfl⟩
set_option maxRecDepth 20000 in
theorem fl_RX6_93 : Fl RX6 93 1 4 := ⟨by decide, by decide, wG_of (List.mem_append_right _ (List.mem_of_getElem? (i := 640) (by decide +kernel))) rfl⟩
set_option maxRecDepth 20000 in
theorem fl_RX6_100 : Fl RX6 100 1 8 := ⟨by decide, by decide, wG_of (List.mem_append_right _ (List.mem_of_getElem? (i := 648) (by decide +kernel))) rfl⟩
set_option maxRecDepth 20000 in
theorem fl_RX6_103 : Fl RX6 103 5 8 := ⟨by decide, by decide, wG_of (List.mem_append_right _ (List.mem_of_getElem? (i := 101) (by decide +kernel))) rfl⟩
set_option maxRecDepth 20000 in
theorem fl_RX6_106 : Fl RX6 106 5 7 := ⟨by decide, by decide, wG_of (List.mem_append_right _ (List.mem_of_getElem? (i := 100) (by decide +kernel))) rfl⟩
set_option maxRecDepth 20000 in
theorem fl_RX6_109 : Fl RX6 109 6 8 := ⟨by decide, by decide, wG_of (List.mem_append_right _ (List.mem_of_getElem? (i := 567) (by decide +kernel))) rfl⟩
set_option maxRecDepth 20000 in
theorem fl_RX6_137 : Fl RX6 137 6 9 := ⟨by decide, by decide, wG_of (List.mem_append_right _ (List.mem_of_getElem? (i := 570) (by decide +kernel))) rfl⟩
set_option maxRecDepth 20000 in
theorem fl_RX6_146 : Fl RX6 146 6 10 := ⟨by decide, by decide, wG_of (List.mem_append_right _ (List.mem_of_getElem? (i := 574) (by decide +kernel))) rfl⟩
set_option maxRecDepth 20000 in
theorem fl_RX7_9 : Fl RX7 9 6 7 := ⟨by decide, by decide, wG_of (List.mem_append_right _ (List.mem_of_getElem? (i := 564) (by decide +kernel))) rfl⟩
set_option maxRecDepth 20000 in
theorem fl_RX7_15 : Fl RX7 15 6 8 := ⟨by decide, by decide, wG_of (List.mem_append_right _ (List.mem_of_getElem? (i := 566) (by decide +kernel))) rfl⟩
set_option maxRecDepth 20000 in
theorem fl_RX7_18 : Fl RX7 18 6 9 := ⟨by decide, by decide, wG_of (List.mem_append_right _ (List.mem_of_getElem? (i := 568) (by decide +kernel))) rfl⟩
set_option maxRecDepth 20000 in
theorem fl_RX7_21 : Fl RX7 21 6 10 := ⟨by decide, by decide, wG_of (List.mem_append_right _ (List.mem_of_getElem? (i := 572) (by decide +kernel))) rfl⟩
set_option maxRecDepth 20000 in
theorem fl_RX7_24 : Fl RX7 24 6 0 := ⟨by decide, by decide, wG_of (List.mem_append_right _ (List.mem_of_getElem? (i := 552) (by decide +kernel))) rfl⟩
set_option maxRecDepth 20000 in
theorem fl_RX7_28 : Fl RX7 28 6 1 := ⟨by decide, by decide, wG_of (List.mem_append_right _ (List.mem_of_getElem? (i := 554) (by decide +kernel))) rfl⟩
set_option maxRecDepth 20000 in
theorem fl_RX7_31 : Fl RX7 31 6 3 := ⟨by decide, by decide, wG_of (List.mem_append_right _ (List.mem_of_getElem? (i := 559) (by decide +kernel))) rfl⟩
set_option maxRecDepth 20000 in
theorem fl_RX7_35 : Fl RX7 35 6 2 := ⟨by decide, by decide, wG_of (List.mem_append_right _ (List.mem_of_getElem? (i := 557) (by decide +kernel))) rfl⟩
set_option maxRecDepth 20000 in
theorem fl_RX7_38 : Fl RX7 38 1 8 := ⟨by decide, by decide, wG_of (List.mem_append_right _ (List.mem_of_getElem? (i := 647) (by decide +kernel))) rfl⟩
set_option maxRecDepth 20000 in
theorem fl_RX7_43 : Fl RX7 43 6 5 := ⟨by decide, by decide, wG_of (List.mem_append_right _ (List.mem_of_getElem? (i := 561) (by decide +kernel))) rfl⟩
set_option maxRecDepth 20000 in
theorem fl_RX7_47 : Fl RX7 47 6 6 := ⟨by decide, by decide, wG_of (List.mem_append_right _ (List.mem_of_getElem? (i := 563) (by decide +kernel))) rfl⟩
set_option maxRecDepth 20000 in
theorem fl_RX7_80 : Fl RX7 80 6 11 := ⟨by decide, by decide, wG_of (List.mem_append_right _ (List.mem_of_getElem? (i := 576) (by decide +kernel))) rfl⟩
set_option maxRecDepth 20000 in
theorem fl_RX7_83 : Fl RX7 83 1 3 := ⟨by decide, by decide, wG_of (List.mem_append_right _ (List.mem_of_getElem? (i := 637) (by decide +kernel))) rfl⟩
set_option maxRecDepth 20000 in
theorem fl_RX7_86 : Fl RX7 86 1 2 := ⟨by decide, by decide, wG_of (List.mem_append_right _ (List.mem_of_getElem? (i := 632) (by decide +kernel))) rfl⟩
set_option maxRecDepth 20000 in
theorem fl_RX7_89 : Fl RX7 89 1 1 := ⟨by decide, by decide, wG_of (List.mem_append_right _ (List.mem_of_getElem? (i := 627) (by decide +kernel))) rfl⟩
set_option maxRecDepth 20000 in
theorem fl_RX7_92 : Fl RX7 92 1 4 := ⟨by decide, by decide, wG_of (List.mem_append_right _ (List.mem_of_getElem? (i := 641) (by decide +kernel))) rfl⟩
set_option maxRecDepth 20000 in
theorem fl_RX9_1 : Fl RX9 1 8 3 := ⟨by decide, by decide, wG_of (List.mem_append_right _ (List.mem_of_getElem? (i := 1010) (by decide +kernel))) rfl⟩
set_option maxRecDepth 20000 in
theorem fl_RX9_7 : Fl RX9 7 8 1 := ⟨by decide, by decide, wG_of (List.mem_append_right _ (List.mem_of_getElem? (i := 1008) (by decide +kernel))) rfl⟩
set_option maxRecDepth 20000 in
theorem fl_RX9_11 : Fl RX9 11 8 4 := ⟨by decide, by decide, wG_of (List.mem_append_right _ (List.mem_of_getElem? (i := 1011) (by decide +kernel))) rfl⟩
set_option maxRecDepth 20000 in
theorem fl_RX9_14 : Fl RX9 14 8 5 := ⟨by decide, by decide, wG_of (List.mem_append_right _ (List.mem_of_getElem? (i := 1012) (by decide +kernel))) rfl⟩
set_option maxRecDepth 20000 in
theorem fl_RX9_17 : Fl RX9 17 8 7 := ⟨by decide, by decide, wG_of (List.mem_append_right _ (List.mem_of_getElem? (i := 1014) (by decide +kernel))) rfl⟩
set_option maxRecDepth 20000 in
theorem fl_RX9_20 : Fl RX9 20 8 6 := ⟨by decide, by decide, wG_of (List.mem_append_right _ (List.mem_of_getElem? (i := 1013) (by decide +kernel))) rfl⟩
set_option maxRecDepth 20000 in
theorem fl_RX9_27 : Fl RX9 27 8 8 := ⟨by decide, by decide, wG_of (List.mem_append_right _ (List.mem_of_getElem? (i := 1015) (by decide +kernel))) rfl⟩
set_option maxRecDepth 20000 in
theorem fl_RX9_34 : Fl RX9 34 8 10 := ⟨by decide, by decide, wG_of (List.mem_append_right _ (List.mem_of_getElem? (i := 1017) (by decide +kernel))) rfl⟩
set_option maxRecDepth 20000 in
theorem fl_RX9_41 : Fl RX9 41 8 9 := ⟨by decide, by decide, wG_of (List.mem_append_right _ (List.mem_of_getElem? (i := 1016) (by decide +kernel))) rfl⟩
set_option maxRecDepth 20000 in
theorem fl_RX9_62 : Fl RX9 62 8 11 := ⟨by decide, by decide, wG_of (List.mem_append_right _ (List.mem_of_getElem? (i := 1018) (by decide +kernel))) rfl⟩
set_option maxRecDepth 20000 in
theorem fl_RX9_69 : Fl RX9 69 8 23 := ⟨by decide, by decide, wG_of (List.mem_append_right _ (List.mem_of_getElem? (i := 1030) (by decide +kernel))) rfl⟩
set_option maxRecDepth 20000 in
theorem fl_RX9_73 : Fl RX9 73 8 12 := ⟨by decide, by decide, wG_of (List.mem_append_right _ (List.mem_of_getElem? (i := 1019) (by decide +kernel))) rfl⟩
set_option maxRecDepth 20000 in
theorem fl_RX9_76 : Fl RX9 76 8 13 := ⟨by decide, by decide, wG_of (List.mem_append_right _ (List.mem_of_getElem? (i := 1020) (by decide +kernel))) rfl⟩
set_option maxRecDepth 20000 in
theorem fl_RX9_79 : Fl RX9 79 8 24 := ⟨by decide, by decide, wG_of (List.mem_append_right _ (List.mem_of_getElem? (i := 1031) (by decide +kernel))) rfl⟩
set_option maxRecDepth 20000 in
theorem fl_RX9_87 : Fl RX9 87 8 0 := ⟨by decide, by decide, wG_of (List.mem_append_right _ (List.mem_of_getElem? (i := 1007) (by decide +kernel))) rfl⟩
set_option maxRecDepth 20000 in
theorem fl_RX9_90 : Fl RX9 90 8 14 := ⟨by decide, by decide, wG_of (List.mem_append_right _ (List.mem_of_getElem? (i := 1021) (by decide +kernel))) rfl⟩
set_option maxRecDepth 20000 in
theorem fl_RX9_93 : Fl RX9 93 8 15 := ⟨by decide, by decide, wG_of (List.mem_append_right _ (List.mem_of_getElem? (i := 1022) (by decide +kernel))) rfl⟩
set_option maxRecDepth 20000 in
theorem fl_RX9_96 : Fl RX9 96 8 16 := ⟨by decide, by decide, wG_of (List.mem_append_right _ (List.mem_of_getElem? (i := 1023) (by decide +kernel))) rfl⟩
set_option maxRecDepth 20000 in
theorem fl_RX9_99 : Fl RX9 99 8 17 := ⟨by decide, by decide, wG_of (List.mem_append_right _ (List.mem_of_getElem? (i := 1024) (by decide +kernel))) rfl⟩
set_option maxRecDepth 20000 in
theorem fl_RX9_102 : Fl RX9 102 8 18 := ⟨by decide, by decide, wG_of (List.mem_append_right _ (List.mem_of_getElem? (i := 1025) (by decide +kernel))) rfl⟩
set_option maxRecDepth 20000 in
theorem fl_RX9_105 : Fl RX9 105 8 19 := ⟨by decide, by decide, wG_of (List.mem_append_right _ (List.mem_of_getElem? (i := 1026) (by decide +kernel))) rfl⟩
set_option maxRecDepth 20000 in
theorem fl_RX9_108 : Fl RX9 108 8 20 := ⟨by decide, by decide, wG_of (List.mem_append_right _ (List.mem_of_getElem? (i := 1027) (by decide +kernel))) rfl⟩
set_option maxRecDepth 20000 in
theorem fl_RX9_111 : Fl RX9 111 8 21 := ⟨by decide, by decide, wG_of (List.mem_append_right _ (List.mem_of_getElem? (i := 1028) (by decide +kernel))) rfl⟩
set_option maxRecDepth 20000 in
theorem fl_RX9_114 : Fl RX9 114 8 22 := ⟨by decide, by decide, wG_of (List.mem_append_right _ (List.mem_of_getElem? (i := 1029) (by decide +kernel))) rfl⟩
set_option maxRecDepth 20000 in
theorem fl_RX9_117 : Fl RX9 117 8 30 := ⟨by decide, by decide, wG_of (List.mem_append_right _ (List.mem_of_getElem? (i := 1037) (by decide +kernel))) rfl⟩
set_option maxRecDepth 20000 in
theorem fl_RX9_120 : Fl RX9 120 8 31 := ⟨by decide, by decide, wG_of (List.mem_append_right _ (List.mem_of_getElem? (i := 1038) (by decide +kernel))) rfl⟩
set_option maxRecDepth 20000 in
theorem fl_RX9_123 : Fl RX9 123 8 32 := ⟨by decide, by decide, wG_of (List.mem_append_right _ (List.mem_of_getElem? (i := 1039) (by decide +kernel))) rfl⟩
set_option maxRecDepth 20000 in
theorem fl_RX9_126 : Fl RX9 126 8 33 := ⟨by decide, by decide, wG_of (List.mem_append_right _ (List.mem_of_getElem? (i := 1040) (by decide +kernel))) rfl⟩
set_option maxRecDepth 20000 in
theorem fl_RX9_129 : Fl RX9 129 8 34 := ⟨by decide, by decide, wG_of (List.mem_append_right _ (List.mem_of_getElem? (i := 1041) (by decide +kernel))) rfl⟩
set_option maxRecDepth 20000 in
theorem fl_RX9_132 : Fl RX9 132 8 35 := ⟨by decide, by decide, wG_of (List.mem_append_right _ (List.mem_of_getElem? (i := 1042) (by decide +kernel))) rfl⟩
set_option maxRecDepth 20000 in
theorem fl_RX9_135 : Fl RX9 135 8 36 := ⟨by decide, by decide, wG_of (List.mem_append_right _ (List.mem_of_getElem? (i := 1043) (by decide +kernel))) rfl⟩
set_option maxRecDepth 20000 in
theorem fl_RX9_138 : Fl RX9 138 8 37 := ⟨by decide, by decide, wG_of (List.mem_append_right _ (List.mem_of_getElem? (i := 1044) (by decide +kernel))) rfl⟩
set_option maxRecDepth 20000 in
theorem fl_RX9_141 : Fl RX9 141 8 38 := ⟨by decide, by decide, wG_of (List.mem_append_right _ (List.mem_of_getElem? (i := 1045) (by decide +kernel))) rfl⟩
set_option maxRecDepth 20000 in
theorem fl_RX9_144 : Fl RX9 144 8 39 := ⟨by decide, by decide, wG_of (List.mem_append_right _ (List.mem_of_getElem? (i := 1046) (by decide +kernel))) rfl⟩
set_option maxRecDepth 20000 in
theorem fl_RX9_147 : Fl RX9 147 8 43 := ⟨by decide, by decide, wG_of (List.mem_append_right _ (List.mem_of_getElem? (i := 1050) (by decide +kernel))) rfl⟩
set_option maxRecDepth 20000 in
theorem fl_RX9_150 : Fl RX9 150 8 44 := ⟨by decide, by decide, wG_of (List.mem_append_right _ (List.mem_of_getElem? (i := 1051) (by decide +kernel))) rfl⟩
set_option maxRecDepth 20000 in
theorem fl_RX9_153 : Fl RX9 153 8 45 := ⟨by decide, by decide, wG_of (List.mem_append_right _ (List.mem_of_getElem? (i := 1052) (by decide +kernel))) rfl⟩
set_option maxRecDepth 20000 in
theorem fl_RX9_156 : Fl RX9 156 8 46 := ⟨by decide, by decide, wG_of (List.mem_append_right _ (List.mem_of_getElem? (i := 1053) (by decide +kernel))) rfl⟩
set_option maxRecDepth 20000 in
theorem fl_RX9_159 : Fl RX9 159 8 47 := ⟨by decide, by decide, wG_of (List.mem_append_right _ (List.mem_of_getElem? (i := 1054) (by decide +kernel))) rfl⟩
set_option maxRecDepth 20000 in
theorem fl_RX9_162 : Fl RX9 162 8 48 := ⟨by decide, by decide, wG_of (List.mem_append_right _ (List.mem_of_getElem? (i := 1055) (by decide +kernel))) rfl⟩
set_option maxRecDepth 20000 in
theorem fl_RX9_166 : Fl RX9 166 8 52 := ⟨by decide, by decide, wG_of (List.mem_append_right _ (List.mem_of_getElem? (i := 1059) (by decide +kernel))) rfl⟩
set_option maxRecDepth 20000 in
theorem fl_RX9_169 : Fl RX9 169 8 53 := ⟨by decide, by decide, wG_of (List.mem_append_right _ (List.mem_of_getElem? (i := 1060) (by decide +kernel))) rfl⟩
set_option maxRecDepth 20000 in
theorem fl_RX9_172 : Fl RX9 172 8 54 := ⟨by decide, by decide, wG_of (List.mem_append_right _ (List.mem_of_getElem? (i := 1061) (by decide +kernel))) rfl⟩
set_option maxRecDepth 20000 in
theorem fl_RX9_175 : Fl RX9 175 8 59 := ⟨by decide, by decide, wG_of (List.mem_append_right _ (List.mem_of_getElem? (i := 1066) (by decide +kernel))) rfl⟩
set_option maxRecDepth 20000 in
theorem fl_RX9_178 : Fl RX9 178 8 60 := ⟨by decide, by decide, wG_of (List.mem_append_right _ (List.mem_of_getElem? (i := 1067) (by decide +kernel))) rfl⟩
set_option maxRecDepth 20000 in
theorem fl_RX9_181 : Fl RX9 181 8 61 := ⟨by decide, by decide, wG_of (List.mem_append_right _ (List.mem_of_getElem? (i := 1068) (by decide +kernel))) rfl⟩
set_option maxRecDepth 20000 in
theorem fl_RX9_184 : Fl RX9 184 8 62 := ⟨by decide, by decide, wG_of (List.mem_append_right _ (List.mem_of_getElem? (i := 1069) (by decide +kernel))) rfl⟩
set_option maxRecDepth 20000 in
theorem fl_RX9_187 : Fl RX9 187 8 65 := ⟨by decide, by decide, wG_of (List.mem_append_right _ (List.mem_of_getElem? (i := 1072) (by decide +kernel))) rfl⟩
set_option maxRecDepth 20000 in
theorem fl_RX9_190 : Fl RX9 190 8 67 := ⟨by decide, by decide, wG_of (List.mem_append_right _ (List.mem_of_getElem? (i := 1074) (by decide +kernel))) rfl⟩
set_option maxRecDepth 20000 in
theorem fl_RX9_193 : Fl RX9 193 8 68 := ⟨by decide, by decide, wG_of (List.mem_append_right _ (List.mem_of_getElem? (i := 1075) (by decide +kernel))) rfl⟩
set_option maxRecDepth 20000 in
theorem fl_RX9_203 : Fl RX9 203 8 2 := ⟨by decide, by decide, wG_of (List.mem_append_right _ (List.mem_of_getElem? (i := 1009) (by decide +kernel))) rfl⟩
set_option maxRecDepth 20000 in
theorem fl_RX9_206 : Fl RX9 206 8 25 := ⟨by decide, by decide, wG_of (List.mem_append_right _ (List.mem_of_getElem? (i := 1032) (by decide +kernel))) rfl⟩
set_option maxRecDepth 20000 in
theorem fl_RX9_209 : Fl RX9 209 8 26 := ⟨by decide, by decide, wG_of (List.mem_append_right _ (List.mem_of_getElem? (i := 1033) (by decide +kernel))) rfl⟩
set_option maxRecDepth 20000 in
theorem fl_RX9_212 : Fl RX9 212 8 27 := ⟨by decide, by decide, wG_of (List.mem_append_right _ (List.mem_of_getElem? (i := 1034) (by decide +kernel))) rfl⟩
set_option maxRecDepth 20000 in
theorem fl_RX9_288 : Fl RX9 288 8 29 := ⟨by decide, by decide, wG_of (List.mem_append_right _ (List.mem_of_getElem? (i := 1036) (by decide +kernel))) rfl⟩
set_option maxRecDepth 20000 in
theorem fl_RX9_291 : Fl RX9 291 8 28 := ⟨by decide, by decide, wG_of (List.mem_append_right _ (List.mem_of_getElem? (i := 1035) (by decide +kernel))) rfl⟩
set_option maxRecDepth 20000 in
theorem fl_RX9_337 : Fl RX9 337 8 40 := ⟨by decide, by decide, wG_of (List.mem_append_right _ (List.mem_of_getElem? (i := 1047) (by decide +kernel))) rfl⟩
set_option maxRecDepth 20000 in
theorem fl_RX9_340 : Fl RX9 340 8 41 := ⟨by decide, by decide, wG_of (List.mem_append_right _ (List.mem_of_getElem? (i := 1048) (by decide +kernel))) rfl⟩
set_option maxRecDepth 20000 in
theorem fl_RX9_343 : Fl RX9 343 8 42 := ⟨by decide, by decide, wG_of (List.mem_append_right _ (List.mem_of_getElem? (i := 1049) (by decide +kernel))) rfl⟩
set_option maxRecDepth 20000 in
theorem fl_RX9_359 : Fl RX9 359 8 49 := ⟨by decide, by decide, wG_of (List.mem_append_right _ (List.mem_of_getElem? (i := 1056) (by decide +kernel))) rfl⟩
set_option maxRecDepth 20000 in
theorem fl_RX9_369 : Fl RX9 369 8 50 := ⟨by decide, by decide, wG_of (List.mem_append_right _ (List.mem_of_getElem? (i := 1057) (by decide +kernel))) rfl⟩
set_option maxRecDepth 20000 in
theorem fl_RX9_377 : Fl RX9 377 8 51 := ⟨by decide, by decide, wG_of (List.mem_append_right _ (List.mem_of_getElem? (i := 1058) (by decide +kernel))) rfl⟩
set_option maxRecDepth 20000 in
theorem fl_RX9_406 : Fl RX9 406 8 55 := ⟨by decide, by decide, wG_of (List.mem_append_right _ (List.mem_of_getElem? (i := 1062) (by decide +kernel))) rfl⟩
set_option maxRecDepth 20000 in
theorem fl_RX9_429 : Fl RX9 429 8 57 := ⟨by decide, by decide, wG_of (List.mem_append_right _ (List.mem_of_getElem? (i := 1064) (by decide +kernel))) rfl⟩
set_option maxRecDepth 20000 in
theorem fl_RX9_432 : Fl RX9 432 8 58 := ⟨by decide, by decide, wG_of (List.mem_append_right _ (List.mem_of_getElem? (i := 1065) (by decide +kernel))) rfl⟩
set_option maxRecDepth 20000 in
theorem fl_RX9_435 : Fl RX9 435 8 56 := ⟨by decide, by decide, wG_of (List.mem_append_right _ (List.mem_of_getElem? (i := 1063) (by decide +kernel))) rfl⟩
set_option maxRecDepth 20000 in
theorem fl_RX9_454 : Fl RX9 454 8 63 := ⟨by decide, by decide, wG_of (List.mem_append_right _ (List.mem_of_getElem? (i := 1070) (by decide +kernel))) rfl⟩
set_option maxRecDepth 20000 in
theorem fl_RX9_457 : Fl RX9 457 8 64 := ⟨by decide, by decide, wG_of (List.mem_append_right _ (List.mem_of_getElem? (i := 1071) (by decide +kernel))) rfl⟩
set_option maxRecDepth 20000 in
theorem fl_RX9_477 : Fl RX9 477 8 66 := ⟨by decide, by decide, wG_of (List.mem_append_right _ (List.mem_of_getElem? (i := 1073) (by decide +kernel))) rfl⟩
set_option maxRecDepth 20000 in
theorem fl_RX9_490 : Fl RX9 490 8 69 := ⟨by decide, by decide, wG_of (List.mem_append_right _ (List.mem_of_getElem? (i := 1076) (by decide +kernel))) rfl⟩
set_option maxRecDepth 20000 in
theorem fl_RX9_497 : Fl RX9 497 8 70 := ⟨by decide, by decide, wG_of (List.mem_append_right _ (List.mem_of_getElem? (i := 1077) (by decide +kernel))) rfl⟩
