set_option maxRecDepth 20000 in
theorem lk_RX8_1 : Cond.methodLink RX8 1 Lib.objectInit ∈ wG := wG_of (List.mem_append_right _ (List.mem_of_getElem? (i := 24) (by decide +kernel))) rfl
set_option maxRecDepth 20000 in
theorem lk_RX8_64 : Cond.methodLink RX8 64 yX2_putBytes ∈ wG := wG_of (List.mem_append_right _ (List.mem_of_getElem? (i := 274) (by decide +kernel))) rfl
set_option maxRecDepth 20000 in
theorem lk_RX8_68 : Cond.methodLink RX8 68 yX2_readTape ∈ wG := wG_of (List.mem_append_right _ (List.mem_of_getElem? (i := 286) (by decide +kernel))) rfl
set_option maxRecDepth 20000 in
theorem lk_RX8_81 : Cond.methodLink RX8 81 yX8_within ∈ wG := wG_of (List.mem_append_right _ (List.mem_of_getElem? (i := 546) (by decide +kernel))) rfl
set_option maxRecDepth 20000 in
theorem lk_RX8_88 : Cond.methodLink RX8 88 yX7_init ∈ wG := wG_of (List.mem_append_right _ (List.mem_of_getElem? (i := 548) (by decide +kernel))) rfl
set_option maxRecDepth 20000 in
theorem lk_RX8_91 : Cond.methodLink RX8 91 yX8_isWeek ∈ wG := wG_of (List.mem_append_right _ (List.mem_of_getElem? (i := 607) (by decide +kernel))) rfl
set_option maxRecDepth 20000 in
theorem lk_RX8_95 : Cond.methodLink RX8 95 yX8_tell ∈ wG := wG_of (List.mem_append_right _ (List.mem_of_getElem? (i := 610) (by decide +kernel))) rfl
set_option maxRecDepth 20000 in
theorem lk_RX8_99 : Cond.methodLink RX8 99 yX8_workerAt ∈ wG := wG_of (List.mem_append_right _ (List.mem_of_getElem? (i := 614) (by decide +kernel))) rfl
set_option maxRecDepth 20000 in
theorem lk_RX8_107 : Cond.methodLink RX8 107 yX8_isDay ∈ wG := wG_of (List.mem_append_right _ (List.mem_of_getElem? (i := 695) (by decide +kernel))) rfl
set_option maxRecDepth 20000 in
theorem lk_RX8_117 : Cond.methodLink RX8 117 yX1_init ∈ wG := wG_of (List.mem_append_right _ (List.mem_of_getElem? (i := 619) (by decide +kernel))) rfl
set_option maxRecDepth 20000 in
theorem lk_RX8_123 : Cond.methodLink RX8 123 yX7_keep ∈ wG := wG_of (List.mem_append_right _ (List.mem_of_getElem? (i := 678) (by decide +kernel))) rfl
set_option maxRecDepth 20000 in
theorem lk_RX8_130 : Cond.methodLink RX8 130 yX8_factAt ∈ wG := wG_of (List.mem_append_right _ (List.mem_of_getElem? (i := 711) (by decide +kernel))) rfl
set_option maxRecDepth 20000 in
theorem lk_RX8_142 : Cond.methodLink RX8 142 yX7_layOut ∈ wG := wG_of (List.mem_append_right _ (List.mem_of_getElem? (i := 724) (by decide +kernel))) rfl
set_option maxRecDepth 20000 in
theorem lk_RX8_152 : Cond.methodLink RX8 152 yX8_at ∈ wG := wG_of (List.mem_append_right _ (List.mem_of_getElem? (i := 808) (by decide +kernel))) rfl
set_option maxRecDepth 20000 in
theorem lk_RX8_159 : Cond.methodLink RX8 159 yX8_openSheet ∈ wG := wG_of (List.mem_append_right _ (List.mem_of_getElem? (i := 817) (by decide +kernel))) rfl
set_option maxRecDepth 20000 in
theorem lk_RX8_163 : Cond.methodLink RX8 163 yX4_countIn ∈ wG := wG_of (List.mem_append_right _ (List.mem_of_getElem? (i := 831) (by decide +kernel))) rfl
set_option maxRecDepth 20000 in
theorem lk_RX8_167 : Cond.methodLink RX8 167 yX4_emptyIn ∈ wG := wG_of (List.mem_append_right _ (List.mem_of_getElem? (i := 856) (by decide +kernel))) rfl
set_option maxRecDepth 20000 in
theorem lk_RX8_170 : Cond.methodLink RX8 170 yX8_factOf ∈ wG := wG_of (List.mem_append_right _ (List.mem_of_getElem? (i := 864) (by decide +kernel))) rfl
set_option maxRecDepth 20000 in
theorem lk_RX8_177 : Cond.methodLink RX8 177 yX4_averageFor ∈ wG := wG_of (List.mem_append_right _ (List.mem_of_getElem? (i := 868) (by decide +kernel))) rfl
set_option maxRecDepth 20000 in
theorem lk_RX8_183 : Cond.methodLink RX8 183 yX4_owedFor ∈ wG := wG_of (List.mem_append_right _ (List.mem_of_getElem? (i := 888) (by decide +kernel))) rfl
set_option maxRecDepth 20000 in
theorem lk_RX8_187 : Cond.methodLink RX8 187 yX8_openChain ∈ wG := wG_of (List.mem_append_right _ (List.mem_of_getElem? (i := 899) (by decide +kernel))) rfl
set_option maxRecDepth 20000 in
theorem lk_RX8_190 : Cond.methodLink RX8 190 yX4_links ∈ wG := wG_of (List.mem_append_right _ (List.mem_of_getElem? (i := 920) (by decide +kernel))) rfl
set_option maxRecDepth 20000 in
theorem lk_RX8_197 : Cond.methodLink RX8 197 yX4_listedAt ∈ wG := wG_of (List.mem_append_right _ (List.mem_of_getElem? (i := 928) (by decide +kernel))) rfl
set_option maxRecDepth 20000 in
theorem lk_RX8_202 : Cond.methodLink RX8 202 yX4_dueOn ∈ wG := wG_of (List.mem_append_right _ (List.mem_of_getElem? (i := 934) (by decide +kernel))) rfl
set_option maxRecDepth 20000 in
theorem lk_RX8_206 : Cond.methodLink RX8 206 yX4_listHolidays ∈ wG := wG_of (List.mem_append_right _ (List.mem_of_getElem? (i := 903) (by decide +kernel))) rfl
set_option maxRecDepth 20000 in
theorem lk_RX8_209 : Cond.methodLink RX8 209 yX4_joinClaims ∈ wG := wG_of (List.mem_append_right _ (List.mem_of_getElem? (i := 947) (by decide +kernel))) rfl
set_option maxRecDepth 20000 in
theorem lk_RX8_216 : Cond.methodLink RX8 216 yX8_shelfAt ∈ wG := wG_of (List.mem_append_right _ (List.mem_of_getElem? (i := 821) (by decide +kernel))) rfl
set_option maxRecDepth 20000 in
theorem lk_RX8_222 : Cond.methodLink RX8 222 yX8_weighAll ∈ wG := wG_of (List.mem_append_right _ (List.mem_of_getElem? (i := 961) (by decide +kernel))) rfl
set_option maxRecDepth 20000 in
theorem lk_RX8_229 : Cond.methodLink RX8 229 yX8_bestTests ∈ wG := wG_of (List.mem_append_right _ (List.mem_of_getElem? (i := 973) (by decide +kernel))) rfl
set_option maxRecDepth 20000 in
theorem lk_RX8_238 : Cond.methodLink RX8 238 yX4_open ∈ wG := wG_of (List.mem_append_right _ (List.mem_of_getElem? (i := 825) (by decide +kernel))) rfl
set_option maxRecDepth 20000 in
theorem lk_RX8_242 : Cond.methodLink RX8 242 yX4_findChain ∈ wG := wG_of (List.mem_append_right _ (List.mem_of_getElem? (i := 912) (by decide +kernel))) rfl
set_option maxRecDepth 20000 in
theorem lk_RX8_245 : Cond.methodLink RX8 245 yX8_weighMarkSets ∈ wG := wG_of (List.mem_append_right _ (List.mem_of_getElem? (i := 977) (by decide +kernel))) rfl
set_option maxRecDepth 20000 in
theorem lk_RX8_248 : Cond.methodLink RX8 248 yJ6_bitCount_0f7a4 ∈ wG := wG_of (List.mem_append_right _ (List.mem_of_getElem? (i := 981) (by decide +kernel))) rfl
set_option maxRecDepth 20000 in
theorem lk_RX8_253 : Cond.methodLink RX8 253 yX8_marksOfSet ∈ wG := wG_of (List.mem_append_right _ (List.mem_of_getElem? (i := 982) (by decide +kernel))) rfl
set_option maxRecDepth 20000 in
theorem lk_RX0_1 : Cond.methodLink RX0 1 Lib.objectInit ∈ wG := wG_of (List.mem_append_right _ (List.mem_of_getElem? (i := 141) (by decide +kernel))) rfl
set_option maxRecDepth 20000 in
theorem lk_RX1_3 : Cond.methodLink RX1 3 Lib.objectInit ∈ wG := wG_of (List.mem_append_right _ (List.mem_of_getElem? (i := 622) (by decide +kernel))) rfl
set_option maxRecDepth 20000 in
theorem lk_RX2_3 : Cond.methodLink RX2 3 Lib.objectInit ∈ wG := wG_of (List.mem_append_right _ (List.mem_of_getElem? (i := 32) (by decide +kernel))) rfl
set_option maxRecDepth 20000 in
theorem lk_RX2_35 : Cond.methodLink RX2 35 yX2_splitTape ∈ wG := wG_of (List.mem_append_right _ (List.mem_of_getElem? (i := 290) (by decide +kernel))) rfl
set_option maxRecDepth 20000 in
theorem lk_RX2_50 : Cond.methodLink RX2 50 yX2_nextToken ∈ wG := wG_of (List.mem_append_right _ (List.mem_of_getElem? (i := 434) (by decide +kernel))) rfl
set_option maxRecDepth 20000 in
theorem lk_RX2_56 : Cond.methodLink RX2 56 yX2_readCounts ∈ wG := wG_of (List.mem_append_right _ (List.mem_of_getElem? (i := 438) (by decide +kernel))) rfl
set_option maxRecDepth 20000 in
theorem lk_RX2_60 : Cond.methodLink RX2 60 yX2_readOnce ∈ wG := wG_of (List.mem_append_right _ (List.mem_of_getElem? (i := 527) (by decide +kernel))) rfl
set_option maxRecDepth 20000 in
theorem lk_RX2_72 : Cond.methodLink RX2 72 yX2_byteAt ∈ wG := wG_of (List.mem_append_right _ (List.mem_of_getElem? (i := 294) (by decide +kernel))) rfl
set_option maxRecDepth 20000 in
theorem lk_RX2_76 : Cond.methodLink RX2 76 yX2_isBlank ∈ wG := wG_of (List.mem_append_right _ (List.mem_of_getElem? (i := 298) (by decide +kernel))) rfl
set_option maxRecDepth 20000 in
theorem lk_RX2_80 : Cond.methodLink RX2 80 yX2_scanToken ∈ wG := wG_of (List.mem_append_right _ (List.mem_of_getElem? (i := 301) (by decide +kernel))) rfl
set_option maxRecDepth 20000 in
theorem lk_RX2_84 : Cond.methodLink RX2 84 yX2_isLetter ∈ wG := wG_of (List.mem_append_right _ (List.mem_of_getElem? (i := 305) (by decide +kernel))) rfl
set_option maxRecDepth 20000 in
theorem lk_RX2_87 : Cond.methodLink RX2 87 yX2_scanWord ∈ wG := wG_of (List.mem_append_right _ (List.mem_of_getElem? (i := 308) (by decide +kernel))) rfl
set_option maxRecDepth 20000 in
theorem lk_RX2_90 : Cond.methodLink RX2 90 yX2_isDigit ∈ wG := wG_of (List.mem_append_right _ (List.mem_of_getElem? (i := 365) (by decide +kernel))) rfl
set_option maxRecDepth 20000 in
theorem lk_RX2_93 : Cond.methodLink RX2 93 yX2_scanNumber ∈ wG := wG_of (List.mem_append_right _ (List.mem_of_getElem? (i := 368) (by decide +kernel))) rfl
set_option maxRecDepth 20000 in
theorem lk_RX2_98 : Cond.methodLink RX2 98 yJ0_indexOf_0f7a4 ∈ wG := wG_of (List.mem_append_right _ (List.mem_of_getElem? (i := 373) (by decide +kernel))) rfl
set_option maxRecDepth 20000 in
theorem lk_RX2_103 : Cond.methodLink RX2 103 yX2_isWord ∈ wG := wG_of (List.mem_append_right _ (List.mem_of_getElem? (i := 312) (by decide +kernel))) rfl
set_option maxRecDepth 20000 in
theorem lk_RX2_109 : Cond.methodLink RX2 109 yJ0_length_8abf5 ∈ wG := wG_of (List.mem_append_right _ (List.mem_of_getElem? (i := 317) (by decide +kernel))) rfl
set_option maxRecDepth 20000 in
theorem lk_RX2_112 : Cond.methodLink RX2 112 yJ0_charAt_5068e ∈ wG := wG_of (List.mem_append_right _ (List.mem_of_getElem? (i := 327) (by decide +kernel))) rfl
set_option maxRecDepth 20000 in
theorem lk_RX2_119 : Cond.methodLink RX2 119 yX2_refuse ∈ wG := wG_of (List.mem_append_right _ (List.mem_of_getElem? (i := 442) (by decide +kernel))) rfl
set_option maxRecDepth 20000 in
theorem lk_RX2_123 : Cond.methodLink RX2 123 yX2_takeKind ∈ wG := wG_of (List.mem_append_right _ (List.mem_of_getElem? (i := 446) (by decide +kernel))) rfl
set_option maxRecDepth 20000 in
theorem lk_RX2_126 : Cond.methodLink RX2 126 yX2_takeNumber ∈ wG := wG_of (List.mem_append_right _ (List.mem_of_getElem? (i := 450) (by decide +kernel))) rfl
set_option maxRecDepth 20000 in
theorem lk_RX2_132 : Cond.methodLink RX2 132 yX2_takeWhen ∈ wG := wG_of (List.mem_append_right _ (List.mem_of_getElem? (i := 459) (by decide +kernel))) rfl
set_option maxRecDepth 20000 in
theorem lk_RX2_136 : Cond.methodLink RX2 136 yX3_init ∈ wG := wG_of (List.mem_append_right _ (List.mem_of_getElem? (i := 506) (by decide +kernel))) rfl
set_option maxRecDepth 20000 in
theorem lk_RX2_139 : Cond.methodLink RX2 139 yX0_addRule ∈ wG := wG_of (List.mem_append_right _ (List.mem_of_getElem? (i := 523) (by decide +kernel))) rfl
set_option maxRecDepth 20000 in
theorem lk_RX2_163 : Cond.methodLink RX2 163 yX2_take ∈ wG := wG_of (List.mem_append_right _ (List.mem_of_getElem? (i := 463) (by decide +kernel))) rfl
set_option maxRecDepth 20000 in
theorem lk_RX2_173 : Cond.methodLink RX2 173 yX2_readLevel ∈ wG := wG_of (List.mem_append_right _ (List.mem_of_getElem? (i := 467) (by decide +kernel))) rfl
set_option maxRecDepth 20000 in
theorem lk_RX2_177 : Cond.methodLink RX2 177 Lib.Math.min.name ∈ wG := wG_of (List.mem_append_right _ (List.mem_of_getElem? (i := 490) (by decide +kernel))) rfl
set_option maxRecDepth 20000 in
theorem lk_RX2_182 : Cond.methodLink RX2 182 Lib.Math.max.name ∈ wG := wG_of (List.mem_append_right _ (List.mem_of_getElem? (i := 491) (by decide +kernel))) rfl
set_option maxRecDepth 20000 in
theorem lk_RX2_185 : Cond.methodLink RX2 185 yJ7_copyOf_59c91 ∈ wG := wG_of (List.mem_append_right _ (List.mem_of_getElem? (i := 492) (by decide +kernel))) rfl
set_option maxRecDepth 20000 in
theorem lk_RX2_191 : Cond.methodLink RX2 191 yX2_readUnit ∈ wG := wG_of (List.mem_append_right _ (List.mem_of_getElem? (i := 471) (by decide +kernel))) rfl
set_option maxRecDepth 20000 in
theorem lk_RX2_194 : Cond.methodLink RX2 194 yX2_readNot ∈ wG := wG_of (List.mem_append_right _ (List.mem_of_getElem? (i := 483) (by decide +kernel))) rfl
set_option maxRecDepth 20000 in
theorem lk_RX2_197 : Cond.methodLink RX2 197 yX2_levelOf ∈ wG := wG_of (List.mem_append_right _ (List.mem_of_getElem? (i := 487) (by decide +kernel))) rfl
set_option maxRecDepth 20000 in
theorem lk_RX2_202 : Cond.methodLink RX2 202 yX2_putStep ∈ wG := wG_of (List.mem_append_right _ (List.mem_of_getElem? (i := 475) (by decide +kernel))) rfl
set_option maxRecDepth 20000 in
theorem lk_RX2_205 : Cond.methodLink RX2 205 yX2_readLeaf ∈ wG := wG_of (List.mem_append_right _ (List.mem_of_getElem? (i := 479) (by decide +kernel))) rfl
set_option maxRecDepth 20000 in
theorem lk_RX3_1 : Cond.methodLink RX3 1 Lib.objectInit ∈ wG := wG_of (List.mem_append_right _ (List.mem_of_getElem? (i := 509) (by decide +kernel))) rfl
set_option maxRecDepth 20000 in
theorem lk_RX4_3 : Cond.methodLink RX4 3 Lib.objectInit ∈ wG := wG_of (List.mem_append_right _ (List.mem_of_getElem? (i := 135) (by decide +kernel))) rfl
set_option maxRecDepth 20000 in
theorem lk_RX4_57 : Cond.methodLink RX4 57 arraycopyName ∈ wG := wG_of (List.mem_append_right _ (List.mem_of_getElem? (i := 829) (by decide +kernel))) rfl
set_option maxRecDepth 20000 in
theorem lk_RX4_69 : Cond.methodLink RX4 69 yJ7_fill_53178 ∈ wG := wG_of (List.mem_append_right _ (List.mem_of_getElem? (i := 830) (by decide +kernel))) rfl
set_option maxRecDepth 20000 in
theorem lk_RX4_98 : Cond.methodLink RX4 98 yX4_valueOf ∈ wG := wG_of (List.mem_append_right _ (List.mem_of_getElem? (i := 837) (by decide +kernel))) rfl
set_option maxRecDepth 20000 in
theorem lk_RX4_113 : Cond.methodLink RX4 113 yX4_leaf ∈ wG := wG_of (List.mem_append_right _ (List.mem_of_getElem? (i := 841) (by decide +kernel))) rfl
set_option maxRecDepth 20000 in
theorem lk_RX4_117 : Cond.methodLink RX4 117 yX4_habit ∈ wG := wG_of (List.mem_append_right _ (List.mem_of_getElem? (i := 845) (by decide +kernel))) rfl
set_option maxRecDepth 20000 in
theorem lk_RX4_122 : Cond.methodLink RX4 122 yX4_join ∈ wG := wG_of (List.mem_append_right _ (List.mem_of_getElem? (i := 849) (by decide +kernel))) rfl
set_option maxRecDepth 20000 in
theorem lk_RX4_126 : Cond.methodLink RX4 126 yX0_number ∈ wG := wG_of (List.mem_append_right _ (List.mem_of_getElem? (i := 872) (by decide +kernel))) rfl
set_option maxRecDepth 20000 in
theorem lk_RX4_130 : Cond.methodLink RX4 130 Lib.Math.max.name ∈ wG := wG_of (List.mem_append_right _ (List.mem_of_getElem? (i := 877) (by decide +kernel))) rfl
set_option maxRecDepth 20000 in
theorem lk_RX4_141 : Cond.methodLink RX4 141 yX4_emptyIn ∈ wG := wG_of (List.mem_append_right _ (List.mem_of_getElem? (i := 878) (by decide +kernel))) rfl
set_option maxRecDepth 20000 in
theorem lk_RX4_144 : Cond.methodLink RX4 144 yX4_countIn ∈ wG := wG_of (List.mem_append_right _ (List.mem_of_getElem? (i := 879) (by decide +kernel))) rfl
set_option maxRecDepth 20000 in
theorem lk_RX4_150 : Cond.methodLink RX4 150 yX1_countsAt ∈ wG := wG_of (List.mem_append_right _ (List.mem_of_getElem? (i := 892) (by decide +kernel))) rfl
set_option maxRecDepth 20000 in
theorem lk_RX4_166 : Cond.methodLink RX4 166 yX4_averageFor ∈ wG := wG_of (List.mem_append_right _ (List.mem_of_getElem? (i := 894) (by decide +kernel))) rfl
set_option maxRecDepth 20000 in
theorem lk_RX4_175 : Cond.methodLink RX4 175 yX4_owedFor ∈ wG := wG_of (List.mem_append_right _ (List.mem_of_getElem? (i := 907) (by decide +kernel))) rfl
set_option maxRecDepth 20000 in
theorem lk_RX4_188 : Cond.methodLink RX4 188 yX4_insert ∈ wG := wG_of (List.mem_append_right _ (List.mem_of_getElem? (i := 908) (by decide +kernel))) rfl
set_option maxRecDepth 20000 in
theorem lk_RX4_195 : Cond.methodLink RX4 195 yX4_listedAt ∈ wG := wG_of (List.mem_append_right _ (List.mem_of_getElem? (i := 916) (by decide +kernel))) rfl
set_option maxRecDepth 20000 in
theorem lk_RX4_204 : Cond.methodLink RX4 204 yX4_withInterest ∈ wG := wG_of (List.mem_append_right _ (List.mem_of_getElem? (i := 938) (by decide +kernel))) rfl
set_option maxRecDepth 20000 in
theorem lk_RX4_208 : Cond.methodLink RX4 208 yX4_findChain ∈ wG := wG_of (List.mem_append_right _ (List.mem_of_getElem? (i := 951) (by decide +kernel))) rfl
set_option maxRecDepth 20000 in
theorem lk_RX4_212 : Cond.methodLink RX4 212 yX4_noteClaim ∈ wG := wG_of (List.mem_append_right _ (List.mem_of_getElem? (i := 952) (by decide +kernel))) rfl
set_option maxRecDepth 20000 in
theorem lk_RX6_3 : Cond.methodLink RX6 3 Lib.objectInit ∈ wG := wG_of (List.mem_append_right _ (List.mem_of_getElem? (i := 92) (by decide +kernel))) rfl
set_option maxRecDepth 20000 in
theorem lk_RX6_39 : Cond.methodLink RX6 39 yX6_gather ∈ wG := wG_of (List.mem_append_right _ (List.mem_of_getElem? (i := 748) (by decide +kernel))) rfl
set_option maxRecDepth 20000 in
theorem lk_RX6_43 : Cond.methodLink RX6 43 yX6_setPosts ∈ wG := wG_of (List.mem_append_right _ (List.mem_of_getElem? (i := 758) (by decide +kernel))) rfl
set_option maxRecDepth 20000 in
theorem lk_RX6_55 : Cond.methodLink RX6 55 yX6_leaveOut ∈ wG := wG_of (List.mem_append_right _ (List.mem_of_getElem? (i := 768) (by decide +kernel))) rfl
set_option maxRecDepth 20000 in
theorem lk_RX6_59 : Cond.methodLink RX6 59 yX6_boundGaps ∈ wG := wG_of (List.mem_append_right _ (List.mem_of_getElem? (i := 794) (by decide +kernel))) rfl
set_option maxRecDepth 20000 in
theorem lk_RX6_63 : Cond.methodLink RX6 63 yX6_writeSpans ∈ wG := wG_of (List.mem_append_right _ (List.mem_of_getElem? (i := 802) (by decide +kernel))) rfl
set_option maxRecDepth 20000 in
theorem lk_RX6_66 : Cond.methodLink RX6 66 yJ7_fill_53178 ∈ wG := wG_of (List.mem_append_right _ (List.mem_of_getElem? (i := 752) (by decide +kernel))) rfl
set_option maxRecDepth 20000 in
theorem lk_RX6_83 : Cond.methodLink RX6 83 yX1_countsAt ∈ wG := wG_of (List.mem_append_right _ (List.mem_of_getElem? (i := 753) (by decide +kernel))) rfl
set_option maxRecDepth 20000 in
theorem lk_RX6_96 : Cond.methodLink RX6 96 yX6_addBank ∈ wG := wG_of (List.mem_append_right _ (List.mem_of_getElem? (i := 754) (by decide +kernel))) rfl
set_option maxRecDepth 20000 in
theorem lk_RX6_112 : Cond.methodLink RX6 112 yX7_totalPaid ∈ wG := wG_of (List.mem_append_right _ (List.mem_of_getElem? (i := 763) (by decide +kernel))) rfl
set_option maxRecDepth 20000 in
theorem lk_RX6_116 : Cond.methodLink RX6 116 yX6_hopelessBanks ∈ wG := wG_of (List.mem_append_right _ (List.mem_of_getElem? (i := 772) (by decide +kernel))) rfl
set_option maxRecDepth 20000 in
theorem lk_RX6_119 : Cond.methodLink RX6 119 yJ6_bitCount_0f7a4 ∈ wG := wG_of (List.mem_append_right _ (List.mem_of_getElem? (i := 776) (by decide +kernel))) rfl
set_option maxRecDepth 20000 in
theorem lk_RX6_124 : Cond.methodLink RX6 124 yX6_comesToRest ∈ wG := wG_of (List.mem_append_right _ (List.mem_of_getElem? (i := 782) (by decide +kernel))) rfl
set_option maxRecDepth 20000 in
theorem lk_RX6_127 : Cond.methodLink RX6 127 yX6_lowerByGaps ∈ wG := wG_of (List.mem_append_right _ (List.mem_of_getElem? (i := 786) (by decide +kernel))) rfl
set_option maxRecDepth 20000 in
theorem lk_RX6_131 : Cond.methodLink RX6 131 yX6_lowerByBanks ∈ wG := wG_of (List.mem_append_right _ (List.mem_of_getElem? (i := 790) (by decide +kernel))) rfl
set_option maxRecDepth 20000 in
theorem lk_RX6_134 : Cond.methodLink RX6 134 yX6_reachFrom ∈ wG := wG_of (List.mem_append_right _ (List.mem_of_getElem? (i := 798) (by decide +kernel))) rfl
set_option maxRecDepth 20000 in
theorem lk_RX6_140 : Cond.methodLink RX6 140 Lib.Math.max.name ∈ wG := wG_of (List.mem_append_right _ (List.mem_of_getElem? (i := 806) (by decide +kernel))) rfl
set_option maxRecDepth 20000 in
theorem lk_RX6_149 : Cond.methodLink RX6 149 Lib.Math.min.name ∈ wG := wG_of (List.mem_append_right _ (List.mem_of_getElem? (i := 807) (by decide +kernel))) rfl
set_option maxRecDepth 20000 in
theorem lk_RX7_3 : Cond.methodLink RX7 3 Lib.objectInit ∈ wG := wG_of (List.mem_append_right _ (List.mem_of_getElem? (i := 551) (by decide +kernel))) rfl
set_option maxRecDepth 20000 in
theorem lk_RX7_50 : Cond.methodLink RX7 50 yJ7_fill_53178 ∈ wG := wG_of (List.mem_append_right _ (List.mem_of_getElem? (i := 728) (by decide +kernel))) rfl
set_option maxRecDepth 20000 in
theorem lk_RX7_56 : Cond.methodLink RX7 56 yX1_countsAt ∈ wG := wG_of (List.mem_append_right _ (List.mem_of_getElem? (i := 731) (by decide +kernel))) rfl
set_option maxRecDepth 20000 in
theorem lk_RX7_60 : Cond.methodLink RX7 60 yX7_note ∈ wG := wG_of (List.mem_append_right _ (List.mem_of_getElem? (i := 735) (by decide +kernel))) rfl
set_option maxRecDepth 20000 in
theorem lk_RX7_64 : Cond.methodLink RX7 64 yX7_forget ∈ wG := wG_of (List.mem_append_right _ (List.mem_of_getElem? (i := 739) (by decide +kernel))) rfl
set_option maxRecDepth 20000 in
theorem lk_RX7_68 : Cond.methodLink RX7 68 arraycopyName ∈ wG := wG_of (List.mem_append_right _ (List.mem_of_getElem? (i := 743) (by decide +kernel))) rfl
set_option maxRecDepth 20000 in
theorem lk_RX7_74 : Cond.methodLink RX7 74 yX6_spread ∈ wG := wG_of (List.mem_append_right _ (List.mem_of_getElem? (i := 744) (by decide +kernel))) rfl
set_option maxRecDepth 20000 in
theorem lk_RL_9 : Cond.methodLink RL 9 yX8_init ∈ wG := wG_of (List.mem_append_right _ (List.mem_of_getElem? (i := 21) (by decide +kernel))) rfl
set_option maxRecDepth 20000 in
theorem lk_RL_12 : Cond.methodLink RL 12 yX9_init ∈ wG := wG_of (List.mem_append_right _ (List.mem_of_getElem? (i := 996) (by decide +kernel))) rfl
set_option maxRecDepth 20000 in
theorem lk_RL_13 : Cond.methodLink RL 13 yX8_feed ∈ wG := wG_of (List.mem_append_right _ (List.mem_of_getElem? (i := 270) (by decide +kernel))) rfl
set_option maxRecDepth 20000 in
theorem lk_RL_17 : Cond.methodLink RL 17 yX9_feed ∈ wG := wG_of (List.mem_append_right _ (List.mem_of_getElem? (i := 1603) (by decide +kernel))) rfl
set_option maxRecDepth 20000 in
theorem lk_RL_18 : Cond.methodLink RL 18 yX8_end ∈ wG := wG_of (List.mem_append_right _ (List.mem_of_getElem? (i := 278) (by decide +kernel))) rfl
set_option maxRecDepth 20000 in
theorem lk_RL_22 : Cond.methodLink RL 22 yX9_end ∈ wG := wG_of (List.mem_append_right _ (List.mem_of_getElem? (i := 1607) (by decide +kernel))) rfl
set_option maxRecDepth 20000 in
theorem lk_RL_23 : Cond.methodLink RL 23 yX8_act ∈ wG := wG_of (List.mem_append_right _ (List.mem_of_getElem? (i := 282) (by decide +kernel))) rfl
set_option maxRecDepth 20000 in
theorem lk_RL_26 : Cond.methodLink RL 26 yX9_act ∈ wG := wG_of (List.mem_append_right _ (List.mem_of_getElem? (i := 1222) (by decide +kernel))) rfl
set_option maxRecDepth 20000 in
theorem lk_RL_27 : Cond.methodLink RL 27 yX8_fault ∈ wG := wG_of (List.mem_append_right _ (List.mem_of_getElem? (i := 538) (by decide +kernel))) rfl
set_option maxRecDepth 20000 in
theorem lk_RL_30 : Cond.methodLink RL 30 yX9_fault ∈ wG := wG_of (List.mem_append_right _ (List.mem_of_getElem? (i := 1362) (by decide +kernel))) rfl
set_option maxRecDepth 20000 in
theorem lk_RL_31 : Cond.methodLink RL 31 yX8_worker ∈ wG := wG_of (List.mem_append_right _ (List.mem_of_getElem? (i := 542) (by decide +kernel))) rfl
set_option maxRecDepth 20000 in
theorem lk_RL_35 : Cond.methodLink RL 35 yX9_worker ∈ wG := wG_of (List.mem_append_right _ (List.mem_of_getElem? (i := 1366) (by decide +kernel))) rfl
set_option maxRecDepth 20000 in
theorem lk_RL_36 : Cond.methodLink RL 36 yX8_pay ∈ wG := wG_of (List.mem_append_right _ (List.mem_of_getElem? (i := 603) (by decide +kernel))) rfl
set_option maxRecDepth 20000 in
theorem lk_RL_40 : Cond.methodLink RL 40 yX9_pay ∈ wG := wG_of (List.mem_append_right _ (List.mem_of_getElem? (i := 1373) (by decide +kernel))) rfl
set_option maxRecDepth 20000 in
theorem lk_RL_41 : Cond.methodLink RL 41 yX8_lost ∈ wG := wG_of (List.mem_append_right _ (List.mem_of_getElem? (i := 682) (by decide +kernel))) rfl
set_option maxRecDepth 20000 in
theorem lk_RL_45 : Cond.methodLink RL 45 yX9_lost ∈ wG := wG_of (List.mem_append_right _ (List.mem_of_getElem? (i := 1388) (by decide +kernel))) rfl
set_option maxRecDepth 20000 in
theorem lk_RL_46 : Cond.methodLink RL 46 yX8_bank ∈ wG := wG_of (List.mem_append_right _ (List.mem_of_getElem? (i := 686) (by decide +kernel))) rfl
set_option maxRecDepth 20000 in
theorem lk_RL_49 : Cond.methodLink RL 49 yX9_bank ∈ wG := wG_of (List.mem_append_right _ (List.mem_of_getElem? (i := 1392) (by decide +kernel))) rfl
set_option maxRecDepth 20000 in
theorem lk_RL_50 : Cond.methodLink RL 50 yX8_holiday ∈ wG := wG_of (List.mem_append_right _ (List.mem_of_getElem? (i := 691) (by decide +kernel))) rfl
set_option maxRecDepth 20000 in
theorem lk_RL_53 : Cond.methodLink RL 53 yX9_holiday ∈ wG := wG_of (List.mem_append_right _ (List.mem_of_getElem? (i := 1397) (by decide +kernel))) rfl
set_option maxRecDepth 20000 in
theorem lk_RL_54 : Cond.methodLink RL 54 yX8_settle ∈ wG := wG_of (List.mem_append_right _ (List.mem_of_getElem? (i := 699) (by decide +kernel))) rfl
set_option maxRecDepth 20000 in
theorem lk_RL_58 : Cond.methodLink RL 58 yX9_settle ∈ wG := wG_of (List.mem_append_right _ (List.mem_of_getElem? (i := 1402) (by decide +kernel))) rfl
set_option maxRecDepth 20000 in
theorem lk_RL_59 : Cond.methodLink RL 59 yX8_claim ∈ wG := wG_of (List.mem_append_right _ (List.mem_of_getElem? (i := 703) (by decide +kernel))) rfl
set_option maxRecDepth 20000 in
theorem lk_RL_62 : Cond.methodLink RL 62 yX9_claim ∈ wG := wG_of (List.mem_append_right _ (List.mem_of_getElem? (i := 1406) (by decide +kernel))) rfl
set_option maxRecDepth 20000 in
theorem lk_RL_63 : Cond.methodLink RL 63 yX8_untell ∈ wG := wG_of (List.mem_append_right _ (List.mem_of_getElem? (i := 707) (by decide +kernel))) rfl
set_option maxRecDepth 20000 in
theorem lk_RL_67 : Cond.methodLink RL 67 yX9_untell ∈ wG := wG_of (List.mem_append_right _ (List.mem_of_getElem? (i := 1410) (by decide +kernel))) rfl
set_option maxRecDepth 20000 in
theorem lk_RL_68 : Cond.methodLink RL 68 yX8_later ∈ wG := wG_of (List.mem_append_right _ (List.mem_of_getElem? (i := 715) (by decide +kernel))) rfl
set_option maxRecDepth 20000 in
theorem lk_RL_71 : Cond.methodLink RL 71 yX9_later ∈ wG := wG_of (List.mem_append_right _ (List.mem_of_getElem? (i := 1414) (by decide +kernel))) rfl
set_option maxRecDepth 20000 in
theorem lk_RL_72 : Cond.methodLink RL 72 yX8_span ∈ wG := wG_of (List.mem_append_right _ (List.mem_of_getElem? (i := 720) (by decide +kernel))) rfl
set_option maxRecDepth 20000 in
theorem lk_RL_76 : Cond.methodLink RL 76 yX9_span ∈ wG := wG_of (List.mem_append_right _ (List.mem_of_getElem? (i := 1419) (by decide +kernel))) rfl
set_option maxRecDepth 20000 in
theorem lk_RL_77 : Cond.methodLink RL 77 yX8_quarrel ∈ wG := wG_of (List.mem_append_right _ (List.mem_of_getElem? (i := 809) (by decide +kernel))) rfl
set_option maxRecDepth 20000 in
theorem lk_RL_80 : Cond.methodLink RL 80 yX9_quarrel ∈ wG := wG_of (List.mem_append_right _ (List.mem_of_getElem? (i := 1464) (by decide +kernel))) rfl
set_option maxRecDepth 20000 in
theorem lk_RL_81 : Cond.methodLink RL 81 yX8_counted ∈ wG := wG_of (List.mem_append_right _ (List.mem_of_getElem? (i := 813) (by decide +kernel))) rfl
set_option maxRecDepth 20000 in
theorem lk_RL_85 : Cond.methodLink RL 85 yX9_counted ∈ wG := wG_of (List.mem_append_right _ (List.mem_of_getElem? (i := 1468) (by decide +kernel))) rfl
set_option maxRecDepth 20000 in
theorem lk_RL_86 : Cond.methodLink RL 86 yX8_empty ∈ wG := wG_of (List.mem_append_right _ (List.mem_of_getElem? (i := 852) (by decide +kernel))) rfl
set_option maxRecDepth 20000 in
theorem lk_RL_89 : Cond.methodLink RL 89 yX9_empty ∈ wG := wG_of (List.mem_append_right _ (List.mem_of_getElem? (i := 1495) (by decide +kernel))) rfl
set_option maxRecDepth 20000 in
theorem lk_RL_90 : Cond.methodLink RL 90 yX8_average ∈ wG := wG_of (List.mem_append_right _ (List.mem_of_getElem? (i := 860) (by decide +kernel))) rfl
set_option maxRecDepth 20000 in
theorem lk_RL_93 : Cond.methodLink RL 93 yX9_average ∈ wG := wG_of (List.mem_append_right _ (List.mem_of_getElem? (i := 1499) (by decide +kernel))) rfl
set_option maxRecDepth 20000 in
theorem lk_RL_94 : Cond.methodLink RL 94 yX8_weeks ∈ wG := wG_of (List.mem_append_right _ (List.mem_of_getElem? (i := 880) (by decide +kernel))) rfl
set_option maxRecDepth 20000 in
theorem lk_RL_97 : Cond.methodLink RL 97 yX9_weeks ∈ wG := wG_of (List.mem_append_right _ (List.mem_of_getElem? (i := 1511) (by decide +kernel))) rfl
set_option maxRecDepth 20000 in
theorem lk_RL_98 : Cond.methodLink RL 98 yX8_owed ∈ wG := wG_of (List.mem_append_right _ (List.mem_of_getElem? (i := 884) (by decide +kernel))) rfl
set_option maxRecDepth 20000 in
theorem lk_RL_101 : Cond.methodLink RL 101 yX9_owed ∈ wG := wG_of (List.mem_append_right _ (List.mem_of_getElem? (i := 1516) (by decide +kernel))) rfl
set_option maxRecDepth 20000 in
theorem lk_RL_102 : Cond.methodLink RL 102 yX8_chain ∈ wG := wG_of (List.mem_append_right _ (List.mem_of_getElem? (i := 895) (by decide +kernel))) rfl
set_option maxRecDepth 20000 in
theorem lk_RL_105 : Cond.methodLink RL 105 yX9_chain ∈ wG := wG_of (List.mem_append_right _ (List.mem_of_getElem? (i := 1528) (by decide +kernel))) rfl
set_option maxRecDepth 20000 in
theorem lk_RL_106 : Cond.methodLink RL 106 yX8_link ∈ wG := wG_of (List.mem_append_right _ (List.mem_of_getElem? (i := 924) (by decide +kernel))) rfl
set_option maxRecDepth 20000 in
theorem lk_RL_109 : Cond.methodLink RL 109 yX9_link ∈ wG := wG_of (List.mem_append_right _ (List.mem_of_getElem? (i := 1544) (by decide +kernel))) rfl
set_option maxRecDepth 20000 in
theorem lk_RL_110 : Cond.methodLink RL 110 yX8_due ∈ wG := wG_of (List.mem_append_right _ (List.mem_of_getElem? (i := 929) (by decide +kernel))) rfl
set_option maxRecDepth 20000 in
theorem lk_RL_114 : Cond.methodLink RL 114 yX9_due ∈ wG := wG_of (List.mem_append_right _ (List.mem_of_getElem? (i := 1548) (by decide +kernel))) rfl
set_option maxRecDepth 20000 in
theorem lk_RL_115 : Cond.methodLink RL 115 yX8_payout ∈ wG := wG_of (List.mem_append_right _ (List.mem_of_getElem? (i := 943) (by decide +kernel))) rfl
set_option maxRecDepth 20000 in
theorem lk_RL_118 : Cond.methodLink RL 118 yX9_payout ∈ wG := wG_of (List.mem_append_right _ (List.mem_of_getElem? (i := 1558) (by decide +kernel))) rfl
set_option maxRecDepth 20000 in
theorem lk_RL_119 : Cond.methodLink RL 119 yX8_quarrels ∈ wG := wG_of (List.mem_append_right _ (List.mem_of_getElem? (i := 956) (by decide +kernel))) rfl
set_option maxRecDepth 20000 in
theorem lk_RL_122 : Cond.methodLink RL 122 yX9_quarrels ∈ wG := wG_of (List.mem_append_right _ (List.mem_of_getElem? (i := 1566) (by decide +kernel))) rfl
set_option maxRecDepth 20000 in
theorem lk_RL_123 : Cond.methodLink RL 123 yX8_marks ∈ wG := wG_of (List.mem_append_right _ (List.mem_of_getElem? (i := 965) (by decide +kernel))) rfl
set_option maxRecDepth 20000 in
theorem lk_RL_126 : Cond.methodLink RL 126 yX9_marks ∈ wG := wG_of (List.mem_append_right _ (List.mem_of_getElem? (i := 1575) (by decide +kernel))) rfl
set_option maxRecDepth 20000 in
theorem lk_RL_127 : Cond.methodLink RL 127 yX8_tests ∈ wG := wG_of (List.mem_append_right _ (List.mem_of_getElem? (i := 969) (by decide +kernel))) rfl
set_option maxRecDepth 20000 in
theorem lk_RL_130 : Cond.methodLink RL 130 yX9_tests ∈ wG := wG_of (List.mem_append_right _ (List.mem_of_getElem? (i := 1579) (by decide +kernel))) rfl
set_option maxRecDepth 20000 in
theorem lk_RL_131 : Cond.methodLink RL 131 yX8_settles ∈ wG := wG_of (List.mem_append_right _ (List.mem_of_getElem? (i := 986) (by decide +kernel))) rfl
set_option maxRecDepth 20000 in
theorem lk_RL_134 : Cond.methodLink RL 134 yX9_settles ∈ wG := wG_of (List.mem_append_right _ (List.mem_of_getElem? (i := 1595) (by decide +kernel))) rfl
set_option maxRecDepth 20000 in
theorem lk_RL_135 : Cond.methodLink RL 135 yX8_about ∈ wG := wG_of (List.mem_append_right _ (List.mem_of_getElem? (i := 990) (by decide +kernel))) rfl
set_option maxRecDepth 20000 in
theorem lk_RL_138 : Cond.methodLink RL 138 yX9_about ∈ wG := wG_of (List.mem_append_right _ (List.mem_of_getElem? (i := 1599) (by decide +kernel))) rfl
set_option maxRecDepth 20000 in
theorem lk_RX9_23 : Cond.methodLink RX9 23 yX9_sign ∈ wG := wG_of (List.mem_append_right _ (List.mem_of_getElem? (i := 1233) (by decide +kernel))) rfl
set_option maxRecDepth 20000 in
theorem lk_RX9_30 : Cond.methodLink RX9 30 yX9_isLetter ∈ wG := wG_of (List.mem_append_right _ (List.mem_of_getElem? (i := 1237) (by decide +kernel))) rfl
set_option maxRecDepth 20000 in
theorem lk_RX9_38 : Cond.methodLink RX9 38 yX9_isDigit ∈ wG := wG_of (List.mem_append_right _ (List.mem_of_getElem? (i := 1240) (by decide +kernel))) rfl
set_option maxRecDepth 20000 in
theorem lk_RX9_44 : Cond.methodLink RX9 44 yX9_isSign ∈ wG := wG_of (List.mem_append_right _ (List.mem_of_getElem? (i := 1243) (by decide +kernel))) rfl
set_option maxRecDepth 20000 in
theorem lk_RX9_47 : Cond.methodLink RX9 47 yX9_fails ∈ wG := wG_of (List.mem_append_right _ (List.mem_of_getElem? (i := 1275) (by decide +kernel))) rfl
set_option maxRecDepth 20000 in
theorem lk_RX9_51 : Cond.methodLink RX9 51 yX9_isGood ∈ wG := wG_of (List.mem_append_right _ (List.mem_of_getElem? (i := 1246) (by decide +kernel))) rfl
set_option maxRecDepth 20000 in
theorem lk_RX9_55 : Cond.methodLink RX9 55 yX9_next ∈ wG := wG_of (List.mem_append_right _ (List.mem_of_getElem? (i := 1229) (by decide +kernel))) rfl
set_option maxRecDepth 20000 in
theorem lk_RX9_59 : Cond.methodLink RX9 59 yX9_wrong ∈ wG := wG_of (List.mem_append_right _ (List.mem_of_getElem? (i := 1271) (by decide +kernel))) rfl
set_option maxRecDepth 20000 in
theorem lk_RX9_66 : Cond.methodLink RX9 66 yX9_plain ∈ wG := wG_of (List.mem_append_right _ (List.mem_of_getElem? (i := 1004) (by decide +kernel))) rfl
set_option maxRecDepth 20000 in
theorem lk_RX9_82 : Cond.methodLink RX9 82 Lib.objectInit ∈ wG := wG_of (List.mem_append_right _ (List.mem_of_getElem? (i := 999) (by decide +kernel))) rfl
set_option maxRecDepth 20000 in
theorem lk_RX9_196 : Cond.methodLink RX9 196 yX9_clear ∈ wG := wG_of (List.mem_append_right _ (List.mem_of_getElem? (i := 1000) (by decide +kernel))) rfl
set_option maxRecDepth 20000 in
theorem lk_RX9_200 : Cond.methodLink RX9 200 yX9_isShelf ∈ wG := wG_of (List.mem_append_right _ (List.mem_of_getElem? (i := 1226) (by decide +kernel))) rfl
set_option maxRecDepth 20000 in
theorem lk_RX9_215 : Cond.methodLink RX9 215 yX9_readLine ∈ wG := wG_of (List.mem_append_right _ (List.mem_of_getElem? (i := 1250) (by decide +kernel))) rfl
set_option maxRecDepth 20000 in
theorem lk_RX9_218 : Cond.methodLink RX9 218 yX9_lay ∈ wG := wG_of (List.mem_append_right _ (List.mem_of_getElem? (i := 1358) (by decide +kernel))) rfl
set_option maxRecDepth 20000 in
theorem lk_RX9_223 : Cond.methodLink RX9 223 yX9_isWord ∈ wG := wG_of (List.mem_append_right _ (List.mem_of_getElem? (i := 1255) (by decide +kernel))) rfl
set_option maxRecDepth 20000 in
theorem lk_RX9_253 : Cond.methodLink RX9 253 yX9_numberHere ∈ wG := wG_of (List.mem_append_right _ (List.mem_of_getElem? (i := 1260) (by decide +kernel))) rfl
set_option maxRecDepth 20000 in
theorem lk_RX9_257 : Cond.methodLink RX9 257 yX9_readCounts ∈ wG := wG_of (List.mem_append_right _ (List.mem_of_getElem? (i := 1279) (by decide +kernel))) rfl
set_option maxRecDepth 20000 in
theorem lk_RX9_260 : Cond.methodLink RX9 260 yX9_readEmpty ∈ wG := wG_of (List.mem_append_right _ (List.mem_of_getElem? (i := 1350) (by decide +kernel))) rfl
set_option maxRecDepth 20000 in
theorem lk_RX9_263 : Cond.methodLink RX9 263 yX9_readNumber ∈ wG := wG_of (List.mem_append_right _ (List.mem_of_getElem? (i := 1354) (by decide +kernel))) rfl
set_option maxRecDepth 20000 in
theorem lk_RX9_266 : Cond.methodLink RX9 266 yX9_is ∈ wG := wG_of (List.mem_append_right _ (List.mem_of_getElem? (i := 1318) (by decide +kernel))) rfl
set_option maxRecDepth 20000 in
theorem lk_RX9_269 : Cond.methodLink RX9 269 yX9_must ∈ wG := wG_of (List.mem_append_right _ (List.mem_of_getElem? (i := 1292) (by decide +kernel))) rfl
set_option maxRecDepth 20000 in
theorem lk_RX9_273 : Cond.methodLink RX9 273 yX9_numeral ∈ wG := wG_of (List.mem_append_right _ (List.mem_of_getElem? (i := 1296) (by decide +kernel))) rfl
set_option maxRecDepth 20000 in
theorem lk_RX9_279 : Cond.methodLink RX9 279 yX9_e ∈ wG := wG_of (List.mem_append_right _ (List.mem_of_getElem? (i := 1305) (by decide +kernel))) rfl
set_option maxRecDepth 20000 in
theorem lk_RX9_282 : Cond.methodLink RX9 282 yX9_kindHere ∈ wG := wG_of (List.mem_append_right _ (List.mem_of_getElem? (i := 1283) (by decide +kernel))) rfl
set_option maxRecDepth 20000 in
theorem lk_RX9_285 : Cond.methodLink RX9 285 yX9_readWhen ∈ wG := wG_of (List.mem_append_right _ (List.mem_of_getElem? (i := 1300) (by decide +kernel))) rfl
set_option maxRecDepth 20000 in
theorem lk_RX9_294 : Cond.methodLink RX9 294 yX9_put ∈ wG := wG_of (List.mem_append_right _ (List.mem_of_getElem? (i := 1309) (by decide +kernel))) rfl
set_option maxRecDepth 20000 in
theorem lk_RX9_297 : Cond.methodLink RX9 297 yX9_unit ∈ wG := wG_of (List.mem_append_right _ (List.mem_of_getElem? (i := 1313) (by decide +kernel))) rfl
set_option maxRecDepth 20000 in
theorem lk_RX9_300 : Cond.methodLink RX9 300 yX9_behind ∈ wG := wG_of (List.mem_append_right _ (List.mem_of_getElem? (i := 1336) (by decide +kernel))) rfl
set_option maxRecDepth 20000 in
theorem lk_RX9_317 : Cond.methodLink RX9 317 yX9_wordHere ∈ wG := wG_of (List.mem_append_right _ (List.mem_of_getElem? (i := 1322) (by decide +kernel))) rfl
set_option maxRecDepth 20000 in
theorem lk_RX9_320 : Cond.methodLink RX9 320 yX9_step ∈ wG := wG_of (List.mem_append_right _ (List.mem_of_getElem? (i := 1332) (by decide +kernel))) rfl
set_option maxRecDepth 20000 in
theorem lk_RX9_327 : Cond.methodLink RX9 327 yX9_rankHere ∈ wG := wG_of (List.mem_append_right _ (List.mem_of_getElem? (i := 1340) (by decide +kernel))) rfl
set_option maxRecDepth 20000 in
theorem lk_RX9_330 : Cond.methodLink RX9 330 yX9_isCompared ∈ wG := wG_of (List.mem_append_right _ (List.mem_of_getElem? (i := 1346) (by decide +kernel))) rfl
set_option maxRecDepth 20000 in
theorem lk_RX9_333 : Cond.methodLink RX9 333 yX9_isIn ∈ wG := wG_of (List.mem_append_right _ (List.mem_of_getElem? (i := 1370) (by decide +kernel))) rfl
set_option maxRecDepth 20000 in
theorem lk_RX9_346 : Cond.methodLink RX9 346 yX9_isWorker ∈ wG := wG_of (List.mem_append_right _ (List.mem_of_getElem? (i := 1377) (by decide +kernel))) rfl
set_option maxRecDepth 20000 in
theorem lk_RX9_349 : Cond.methodLink RX9 349 yX9_isWeek ∈ wG := wG_of (List.mem_append_right _ (List.mem_of_getElem? (i := 1381) (by decide +kernel))) rfl
set_option maxRecDepth 20000 in
theorem lk_RX9_352 : Cond.methodLink RX9 352 yX9_fact ∈ wG := wG_of (List.mem_append_right _ (List.mem_of_getElem? (i := 1384) (by decide +kernel))) rfl
set_option maxRecDepth 20000 in
theorem lk_RX9_362 : Cond.methodLink RX9 362 yX9_counts ∈ wG := wG_of (List.mem_append_right _ (List.mem_of_getElem? (i := 1427) (by decide +kernel))) rfl
set_option maxRecDepth 20000 in
theorem lk_RX9_366 : Cond.methodLink RX9 366 yX9_seekQuarrel ∈ wG := wG_of (List.mem_append_right _ (List.mem_of_getElem? (i := 1431) (by decide +kernel))) rfl
set_option maxRecDepth 20000 in
theorem lk_RX9_372 : Cond.methodLink RX9 372 yX9_spread ∈ wG := wG_of (List.mem_append_right _ (List.mem_of_getElem? (i := 1456) (by decide +kernel))) rfl
set_option maxRecDepth 20000 in
theorem lk_RX9_381 : Cond.methodLink RX9 381 yX9_totalOf ∈ wG := wG_of (List.mem_append_right _ (List.mem_of_getElem? (i := 1446) (by decide +kernel))) rfl
set_option maxRecDepth 20000 in
theorem lk_RX9_386 : Cond.methodLink RX9 386 yX9_draw ∈ wG := wG_of (List.mem_append_right _ (List.mem_of_getElem? (i := 1451) (by decide +kernel))) rfl
set_option maxRecDepth 20000 in
theorem lk_RX9_390 : Cond.methodLink RX9 390 yX9_drawAll ∈ wG := wG_of (List.mem_append_right _ (List.mem_of_getElem? (i := 1442) (by decide +kernel))) rfl
set_option maxRecDepth 20000 in
theorem lk_RX9_393 : Cond.methodLink RX9 393 yX9_most ∈ wG := wG_of (List.mem_append_right _ (List.mem_of_getElem? (i := 1460) (by decide +kernel))) rfl
set_option maxRecDepth 20000 in
theorem lk_RX9_397 : Cond.methodLink RX9 397 yX9_bitsOf ∈ wG := wG_of (List.mem_append_right _ (List.mem_of_getElem? (i := 1435) (by decide +kernel))) rfl
set_option maxRecDepth 20000 in
theorem lk_RX9_400 : Cond.methodLink RX9 400 yX9_canHold ∈ wG := wG_of (List.mem_append_right _ (List.mem_of_getElem? (i := 1438) (by decide +kernel))) rfl
set_option maxRecDepth 20000 in
theorem lk_RX9_403 : Cond.methodLink RX9 403 yX9_know ∈ wG := wG_of (List.mem_append_right _ (List.mem_of_getElem? (i := 1423) (by decide +kernel))) rfl
set_option maxRecDepth 20000 in
theorem lk_RX9_409 : Cond.methodLink RX9 409 yX9_habit ∈ wG := wG_of (List.mem_append_right _ (List.mem_of_getElem? (i := 1484) (by decide +kernel))) rfl
set_option maxRecDepth 20000 in
theorem lk_RX9_412 : Cond.methodLink RX9 412 yX9_term ∈ wG := wG_of (List.mem_append_right _ (List.mem_of_getElem? (i := 1480) (by decide +kernel))) rfl
set_option maxRecDepth 20000 in
theorem lk_RX9_416 : Cond.methodLink RX9 416 yX9_two ∈ wG := wG_of (List.mem_append_right _ (List.mem_of_getElem? (i := 1488) (by decide +kernel))) rfl
set_option maxRecDepth 20000 in
theorem lk_RX9_419 : Cond.methodLink RX9 419 yX9_holds ∈ wG := wG_of (List.mem_append_right _ (List.mem_of_getElem? (i := 1476) (by decide +kernel))) rfl
set_option maxRecDepth 20000 in
theorem lk_RX9_422 : Cond.methodLink RX9 422 yX9_partOf ∈ wG := wG_of (List.mem_append_right _ (List.mem_of_getElem? (i := 1491) (by decide +kernel))) rfl
set_option maxRecDepth 20000 in
theorem lk_RX9_425 : Cond.methodLink RX9 425 yX9_reckon ∈ wG := wG_of (List.mem_append_right _ (List.mem_of_getElem? (i := 1472) (by decide +kernel))) rfl
set_option maxRecDepth 20000 in
theorem lk_RX9_438 : Cond.methodLink RX9 438 yX9_averageOf ∈ wG := wG_of (List.mem_append_right _ (List.mem_of_getElem? (i := 1507) (by decide +kernel))) rfl
set_option maxRecDepth 20000 in
theorem lk_RX9_441 : Cond.methodLink RX9 441 yX9_isBarred ∈ wG := wG_of (List.mem_append_right _ (List.mem_of_getElem? (i := 1524) (by decide +kernel))) rfl
set_option maxRecDepth 20000 in
theorem lk_RX9_445 : Cond.methodLink RX9 445 yX9_isOf ∈ wG := wG_of (List.mem_append_right _ (List.mem_of_getElem? (i := 1503) (by decide +kernel))) rfl
set_option maxRecDepth 20000 in
theorem lk_RX9_448 : Cond.methodLink RX9 448 yX9_average ∈ wG := wG_of (List.mem_append_right _ (List.mem_of_getElem? (i := 1515) (by decide +kernel))) rfl
set_option maxRecDepth 20000 in
theorem lk_RX9_451 : Cond.methodLink RX9 451 yX9_owedOf ∈ wG := wG_of (List.mem_append_right _ (List.mem_of_getElem? (i := 1520) (by decide +kernel))) rfl
set_option maxRecDepth 20000 in
theorem lk_RX9_460 : Cond.methodLink RX9 460 yX9_gather ∈ wG := wG_of (List.mem_append_right _ (List.mem_of_getElem? (i := 1536) (by decide +kernel))) rfl
set_option maxRecDepth 20000 in
theorem lk_RX9_463 : Cond.methodLink RX9 463 yX9_chainOf ∈ wG := wG_of (List.mem_append_right _ (List.mem_of_getElem? (i := 1540) (by decide +kernel))) rfl
set_option maxRecDepth 20000 in
theorem lk_RX9_466 : Cond.methodLink RX9 466 yX9_canChain ∈ wG := wG_of (List.mem_append_right _ (List.mem_of_getElem? (i := 1532) (by decide +kernel))) rfl
set_option maxRecDepth 20000 in
theorem lk_RX9_474 : Cond.methodLink RX9 474 yX9_withInterest ∈ wG := wG_of (List.mem_append_right _ (List.mem_of_getElem? (i := 1553) (by decide +kernel))) rfl
set_option maxRecDepth 20000 in
theorem lk_RX9_480 : Cond.methodLink RX9 480 yX9_payoutOf ∈ wG := wG_of (List.mem_append_right _ (List.mem_of_getElem? (i := 1562) (by decide +kernel))) rfl
set_option maxRecDepth 20000 in
theorem lk_RX9_484 : Cond.methodLink RX9 484 yX9_allOf ∈ wG := wG_of (List.mem_append_right _ (List.mem_of_getElem? (i := 1570) (by decide +kernel))) rfl
set_option maxRecDepth 20000 in
theorem lk_RX9_493 : Cond.methodLink RX9 493 yX9_settledBy ∈ wG := wG_of (List.mem_append_right _ (List.mem_of_getElem? (i := 1587) (by decide +kernel))) rfl
set_option maxRecDepth 20000 in
theorem lk_RX9_500 : Cond.methodLink RX9 500 yX9_canBe ∈ wG := wG_of (List.mem_append_right _ (List.mem_of_getElem? (i := 1591) (by decide +kernel))) rfl
set_option maxRecDepth 20000 in
theorem lk_RX9_503 : Cond.methodLink RX9 503 yX9_seek ∈ wG := wG_of (List.mem_append_right _ (List.mem_of_getElem? (i := 1583) (by decide +kernel))) rfl
set_option maxRecDepth 20000 in
theorem lk_RJ0_335 : Cond.methodLink RJ0 335 yJ0_coder_7d493 ∈ wG := wG_of (List.mem_append_right _ (List.mem_of_getElem? (i := 321) (by decide +kernel))) rfl
set_option maxRecDepth 20000 in
theorem lk_RJ0_492 : Cond.methodLink RJ0 492 yJ0_isLatin1_aae02 ∈ wG := wG_of (List.mem_append_right _ (List.mem_of_getElem? (i := 331) (by decide +kernel))) rfl
set_option maxRecDepth 20000 in
theorem lk_RJ0_495 : Cond.methodLink RJ0 495 yJ1_charAt_3b067 ∈ wG := wG_of (List.mem_append_right _ (List.mem_of_getElem? (i := 335) (by decide +kernel))) rfl
set_option maxRecDepth 20000 in
theorem lk_RJ0_505 : Cond.methodLink RJ0 505 yJ0_length_8abf5 ∈ wG := wG_of (List.mem_append_right _ (List.mem_of_getElem? (i := 381) (by decide +kernel))) rfl
set_option maxRecDepth 20000 in
theorem lk_RJ0_633 : Cond.methodLink RJ0 633 yJ0_indexOf_7cf53 ∈ wG := wG_of (List.mem_append_right _ (List.mem_of_getElem? (i := 377) (by decide +kernel))) rfl
set_option maxRecDepth 20000 in
theorem lk_RJ0_637 : Cond.methodLink RJ0 637 yJ1_indexOf_4cfef ∈ wG := wG_of (List.mem_append_right _ (List.mem_of_getElem? (i := 382) (by decide +kernel))) rfl
set_option maxRecDepth 20000 in
theorem lk_RJ0_1059 : Cond.methodLink RJ0 1059 yJ3_checkIndex_8e157 ∈ wG := wG_of (List.mem_append_right _ (List.mem_of_getElem? (i := 343) (by decide +kernel))) rfl
set_option maxRecDepth 20000 in
theorem lk_RJ1_9 : Cond.methodLink RJ1 9 yJ0_checkIndex_df160 ∈ wG := wG_of (List.mem_append_right _ (List.mem_of_getElem? (i := 338) (by decide +kernel))) rfl
set_option maxRecDepth 20000 in
theorem lk_RJ1_38 : Cond.methodLink RJ1 38 Lib.Math.min.name ∈ wG := wG_of (List.mem_append_right _ (List.mem_of_getElem? (i := 391) (by decide +kernel))) rfl
set_option maxRecDepth 20000 in
theorem lk_RJ1_88 : Cond.methodLink RJ1 88 yJ1_canEncode_9a6ad ∈ wG := wG_of (List.mem_append_right _ (List.mem_of_getElem? (i := 385) (by decide +kernel))) rfl
set_option maxRecDepth 20000 in
theorem lk_RJ1_92 : Cond.methodLink RJ1 92 Lib.Math.max.name ∈ wG := wG_of (List.mem_append_right _ (List.mem_of_getElem? (i := 388) (by decide +kernel))) rfl
set_option maxRecDepth 20000 in
theorem lk_RJ1_95 : Cond.methodLink RJ1 95 yJ1_indexOfChar_4cfef ∈ wG := wG_of (List.mem_append_right _ (List.mem_of_getElem? (i := 394) (by decide +kernel))) rfl
set_option maxRecDepth 20000 in
theorem lk_RJ7_150 : Cond.methodLink RJ7 150 arraycopyName ∈ wG := wG_of (List.mem_append_right _ (List.mem_of_getElem? (i := 503) (by decide +kernel))) rfl
set_option maxRecDepth 20000 in
theorem lk_RJ7_304 : Cond.methodLink RJ7 304 Lib.Math.min.name ∈ wG := wG_of (List.mem_append_right _ (List.mem_of_getElem? (i := 502) (by decide +kernel))) rfl
set_option maxRecDepth 20000 in
theorem lk_RX8_9 : Cond.methodLinkNest RX8 9 yX2_init RX8 ∈ wN := List.mem_filter.mpr ⟨List.mem_append_right _ (List.mem_of_getElem? (i := 29) (by decide +kernel)), rfl⟩
set_option maxRecDepth 20000 in
theorem lk_RX8_36 : Cond.methodLinkNest RX8 36 yX6_init RX8 ∈ wN := List.mem_filter.mpr ⟨List.mem_append_right _ (List.mem_of_getElem? (i := 89) (by decide +kernel)), rfl⟩
set_option maxRecDepth 20000 in
theorem lk_RX8_43 : Cond.methodLinkNest RX8 43 yX4_init RX8 ∈ wN := List.mem_filter.mpr ⟨List.mem_append_right _ (List.mem_of_getElem? (i := 132) (by decide +kernel)), rfl⟩
set_option maxRecDepth 20000 in
theorem lk_RX8_59 : Cond.methodLinkNest RX8 59 yX0_init RX8 ∈ wN := List.mem_filter.mpr ⟨List.mem_append_right _ (List.mem_of_getElem? (i := 228) (by decide +kernel)), rfl⟩
set_option maxRecDepth 20000 in
theorem lk_RX0_26 : Cond.methodLinkNest RX0 26 yX8_at RX8 ∈ wN := List.mem_filter.mpr ⟨List.mem_append_right _ (List.mem_of_getElem? (i := 876) (by decide +kernel)), rfl⟩
set_option maxRecDepth 20000 in
theorem lk_RX2_49 : Cond.methodLinkNest RX2 49 yX0_init RX8 ∈ wN := List.mem_filter.mpr ⟨List.mem_append_right _ (List.mem_of_getElem? (i := 433) (by decide +kernel)), rfl⟩
set_option maxRecDepth 20000 in
theorem lk_RX2_153 : Cond.methodLinkNest RX2 153 yX8_at RX8 ∈ wN := List.mem_filter.mpr ⟨List.mem_append_right _ (List.mem_of_getElem? (i := 533) (by decide +kernel)), rfl⟩
set_option maxRecDepth 20000 in
theorem lk_RX2_166 : Cond.methodLinkNest RX2 166 yX8_within RX8 ∈ wN := List.mem_filter.mpr ⟨List.mem_append_right _ (List.mem_of_getElem? (i := 454) (by decide +kernel)), rfl⟩
set_option maxRecDepth 20000 in
theorem lk_RX4_11 : Cond.methodLinkNest RX4 11 yX0_init RX8 ∈ wN := List.mem_filter.mpr ⟨List.mem_append_right _ (List.mem_of_getElem? (i := 138) (by decide +kernel)), rfl⟩
set_option maxRecDepth 20000 in
theorem lk_RX4_75 : Cond.methodLinkNest RX4 75 yX8_isWeek RX8 ∈ wN := List.mem_filter.mpr ⟨List.mem_append_right _ (List.mem_of_getElem? (i := 835) (by decide +kernel)), rfl⟩
set_option maxRecDepth 20000 in
theorem lk_RX4_91 : Cond.methodLinkNest RX4 91 yX8_at RX8 ∈ wN := List.mem_filter.mpr ⟨List.mem_append_right _ (List.mem_of_getElem? (i := 836) (by decide +kernel)), rfl⟩
set_option maxRecDepth 20000 in
theorem lk_RX4_159 : Cond.methodLinkNest RX4 159 yX8_within RX8 ∈ wN := List.mem_filter.mpr ⟨List.mem_append_right _ (List.mem_of_getElem? (i := 893) (by decide +kernel)), rfl⟩
set_option maxRecDepth 20000 in
theorem lk_RX6_51 : Cond.methodLinkNest RX6 51 yX8_at RX8 ∈ wN := List.mem_filter.mpr ⟨List.mem_append_right _ (List.mem_of_getElem? (i := 762) (by decide +kernel)), rfl⟩
set_option maxRecDepth 20000 in
theorem lk_RX7_95 : Cond.methodLinkNest RX7 95 yX8_at RX8 ∈ wN := List.mem_filter.mpr ⟨List.mem_append_right _ (List.mem_of_getElem? (i := 767) (by decide +kernel)), rfl⟩
set_option maxRecDepth 20000 in
theorem kc_RX8_103 : Cond.constant RX8 103 (999999) ∈ wG := wG_of (List.mem_append_right _ (List.mem_of_getElem? (i := 690) (by decide +kernel))) rfl
set_option maxRecDepth 20000 in
theorem kc_RX8_110 : Cond.constant RX8 110 (99999) ∈ wG := wG_of (List.mem_append_right _ (List.mem_of_getElem? (i := 698) (by decide +kernel))) rfl
set_option maxRecDepth 20000 in
theorem kc_RX8_141 : Cond.constant RX8 141 (100000) ∈ wG := wG_of (List.mem_append_right _ (List.mem_of_getElem? (i := 719) (by decide +kernel))) rfl
set_option maxRecDepth 20000 in
theorem kc_RX9_356 : Cond.constant RX9 356 (999999) ∈ wG := wG_of (List.mem_append_right _ (List.mem_of_getElem? (i := 1396) (by decide +kernel))) rfl
set_option maxRecDepth 20000 in
theorem kc_RX9_357 : Cond.constant RX9 357 (99999) ∈ wG := wG_of (List.mem_append_right _ (List.mem_of_getElem? (i := 1401) (by decide +kernel))) rfl
set_option maxRecDepth 20000 in
theorem kc_RX9_358 : Cond.constant RX9 358 (100000) ∈ wG := wG_of (List.mem_append_right _ (List.mem_of_getElem? (i := 1418) (by decide +kernel))) rfl
set_option maxRecDepth 20000 in
theorem kc_RJ6_265 : Cond.constant RJ6 265 (1431655765) ∈ wG := wG_of (List.mem_append_right _ (List.mem_of_getElem? (i := 779) (by decide +kernel))) rfl
set_option maxRecDepth 20000 in
theorem kc_RJ6_266 : Cond.constant RJ6 266 (858993459) ∈ wG := wG_of (List.mem_append_right _ (List.mem_of_getElem? (i := 780) (by decide +kernel))) rfl
set_option maxRecDepth 20000 in
theorem kc_RJ6_267 : Cond.constant RJ6 267 (252645135) ∈ wG := wG_of (List.mem_append_right _ (List.mem_of_getElem? (i := 781) (by decide +kernel))) rfl
set_option maxRecDepth 20000 in
theorem kc_RX8_200 : Cond.constantLong RX8 200 (-1) ∈ wG := wG_of (List.mem_append_right _ (List.mem_of_getElem? (i := 933) (by decide +kernel))) rfl
set_option maxRecDepth 20000 in
theorem kc_RX8_220 : Cond.constantLong RX8 220 (-1000000000000) ∈ wG := wG_of (List.mem_append_right _ (List.mem_of_getElem? (i := 960) (by decide +kernel))) rfl
set_option maxRecDepth 20000 in
theorem kc_RX4_202 : Cond.constantLong RX4 202 (365000) ∈ wG := wG_of (List.mem_append_right _ (List.mem_of_getElem? (i := 942) (by decide +kernel))) rfl
set_option maxRecDepth 20000 in
theorem kc_RX9_221 : Cond.constantLong RX9 221 (512802253683) ∈ wG := wG_of (List.mem_append_right _ (List.mem_of_getElem? (i := 1264) (by decide +kernel))) rfl
set_option maxRecDepth 20000 in
theorem kc_RX9_227 : Cond.constantLong RX9 227 (1650549611) ∈ wG := wG_of (List.mem_append_right _ (List.mem_of_getElem? (i := 1265) (by decide +kernel))) rfl
set_option maxRecDepth 20000 in
theorem kc_RX9_229 : Cond.constantLong RX9 229 (1684109683) ∈ wG := wG_of (List.mem_append_right _ (List.mem_of_getElem? (i := 1266) (by decide +kernel))) rfl
set_option maxRecDepth 20000 in
theorem kc_RX9_231 : Cond.constantLong RX9 231 (426952976750) ∈ wG := wG_of (List.mem_append_right _ (List.mem_of_getElem? (i := 1267) (by decide +kernel))) rfl
set_option maxRecDepth 20000 in
theorem kc_RX9_233 : Cond.constantLong RX9 233 (1818326117) ∈ wG := wG_of (List.mem_append_right _ (List.mem_of_getElem? (i := 1268) (by decide +kernel))) rfl
set_option maxRecDepth 20000 in
theorem kc_RX9_235 : Cond.constantLong RX9 235 (1937010544) ∈ wG := wG_of (List.mem_append_right _ (List.mem_of_getElem? (i := 1269) (by decide +kernel))) rfl
set_option maxRecDepth 20000 in
theorem kc_RX9_237 : Cond.constantLong RX9 237 (7597137600480375668) ∈ wG := wG_of (List.mem_append_right _ (List.mem_of_getElem? (i := 1270) (by decide +kernel))) rfl
set_option maxRecDepth 20000 in
theorem kc_RX9_239 : Cond.constantLong RX9 239 (1650553701) ∈ wG := wG_of (List.mem_append_right _ (List.mem_of_getElem? (i := 1287) (by decide +kernel))) rfl
set_option maxRecDepth 20000 in
theorem kc_RX9_241 : Cond.constantLong RX9 241 (8031718527715601765) ∈ wG := wG_of (List.mem_append_right _ (List.mem_of_getElem? (i := 1288) (by decide +kernel))) rfl
set_option maxRecDepth 20000 in
theorem kc_RX9_243 : Cond.constantLong RX9 243 (495555732851) ∈ wG := wG_of (List.mem_append_right _ (List.mem_of_getElem? (i := 1289) (by decide +kernel))) rfl
set_option maxRecDepth 20000 in
theorem kc_RX9_245 : Cond.constantLong RX9 245 (128034610242924) ∈ wG := wG_of (List.mem_append_right _ (List.mem_of_getElem? (i := 1290) (by decide +kernel))) rfl
set_option maxRecDepth 20000 in
theorem kc_RX9_247 : Cond.constantLong RX9 247 (422776305011) ∈ wG := wG_of (List.mem_append_right _ (List.mem_of_getElem? (i := 1291) (by decide +kernel))) rfl
set_option maxRecDepth 20000 in
theorem kc_RX9_249 : Cond.constantLong RX9 249 (109330362692723) ∈ wG := wG_of (List.mem_append_right _ (List.mem_of_getElem? (i := 1254) (by decide +kernel))) rfl
set_option maxRecDepth 20000 in
theorem kc_RX9_251 : Cond.constantLong RX9 251 (435627783289) ∈ wG := wG_of (List.mem_append_right _ (List.mem_of_getElem? (i := 1259) (by decide +kernel))) rfl
set_option maxRecDepth 20000 in
theorem kc_RX9_277 : Cond.constantLong RX9 277 (2003330414) ∈ wG := wG_of (List.mem_append_right _ (List.mem_of_getElem? (i := 1304) (by decide +kernel))) rfl
set_option maxRecDepth 20000 in
theorem kc_RX9_303 : Cond.constantLong RX9 303 (448546566771) ∈ wG := wG_of (List.mem_append_right _ (List.mem_of_getElem? (i := 1326) (by decide +kernel))) rfl
set_option maxRecDepth 20000 in
theorem kc_RX9_305 : Cond.constantLong RX9 305 (500086104428) ∈ wG := wG_of (List.mem_append_right _ (List.mem_of_getElem? (i := 1327) (by decide +kernel))) rfl
set_option maxRecDepth 20000 in
theorem kc_RX9_307 : Cond.constantLong RX9 307 (2003133803) ∈ wG := wG_of (List.mem_append_right _ (List.mem_of_getElem? (i := 1328) (by decide +kernel))) rfl
set_option maxRecDepth 20000 in
theorem kc_RX9_309 : Cond.constantLong RX9 309 (482854658917) ∈ wG := wG_of (List.mem_append_right _ (List.mem_of_getElem? (i := 1329) (by decide +kernel))) rfl
set_option maxRecDepth 20000 in
theorem kc_RX9_311 : Cond.constantLong RX9 311 (1952805485) ∈ wG := wG_of (List.mem_append_right _ (List.mem_of_getElem? (i := 1330) (by decide +kernel))) rfl
set_option maxRecDepth 20000 in
theorem kc_RX9_313 : Cond.constantLong RX9 313 (448310438260) ∈ wG := wG_of (List.mem_append_right _ (List.mem_of_getElem? (i := 1331) (by decide +kernel))) rfl
set_option maxRecDepth 20000 in
theorem kc_RX9_315 : Cond.constantLong RX9 315 (7237492) ∈ wG := wG_of (List.mem_append_right _ (List.mem_of_getElem? (i := 1317) (by decide +kernel))) rfl
set_option maxRecDepth 20000 in
theorem kc_RX9_323 : Cond.constantLong RX9 323 (6385252) ∈ wG := wG_of (List.mem_append_right _ (List.mem_of_getElem? (i := 1344) (by decide +kernel))) rfl
set_option maxRecDepth 20000 in
theorem kc_RX9_325 : Cond.constantLong RX9 325 (28530) ∈ wG := wG_of (List.mem_append_right _ (List.mem_of_getElem? (i := 1345) (by decide +kernel))) rfl
set_option maxRecDepth 20000 in
theorem kc_RX9_375 : Cond.constantLong RX9 375 (1000000000) ∈ wG := wG_of (List.mem_append_right _ (List.mem_of_getElem? (i := 1455) (by decide +kernel))) rfl
set_option maxRecDepth 20000 in
theorem kc_RX9_384 : Cond.constantLong RX9 384 (9999) ∈ wG := wG_of (List.mem_append_right _ (List.mem_of_getElem? (i := 1450) (by decide +kernel))) rfl
set_option maxRecDepth 20000 in
theorem kc_RX9_470 : Cond.constantLong RX9 470 (365000) ∈ wG := wG_of (List.mem_append_right _ (List.mem_of_getElem? (i := 1557) (by decide +kernel))) rfl
set_option maxRecDepth 20000 in
theorem kc_RX9_472 : Cond.constantLong RX9 472 (-1) ∈ wG := wG_of (List.mem_append_right _ (List.mem_of_getElem? (i := 1552) (by decide +kernel))) rfl
set_option maxRecDepth 20000 in
theorem kc_RX9_488 : Cond.constantLong RX9 488 (-1000000000000) ∈ wG := wG_of (List.mem_append_right _ (List.mem_of_getElem? (i := 1574) (by decide +kernel))) rfl
set_option maxRecDepth 20000 in
theorem cl_RX8_7 : Cond.classLink RX8 7 (clT 2).1 ∈ wG := wG_of (List.mem_append_right _ (List.mem_of_getElem? (i := 27) (by decide +kernel))) rfl
set_option maxRecDepth 20000 in
theorem cl_RX8_16 : Cond.classLink RX8 16 (clT 0).1 ∈ wG := wG_of (List.mem_append_right _ (List.mem_of_getElem? (i := 81) (by decide +kernel))) rfl
set_option maxRecDepth 20000 in
theorem cl_RX8_22 : Cond.classLink RX8 22 (clT 6).1 ∈ wG := wG_of (List.mem_append_right _ (List.mem_of_getElem? (i := 83) (by decide +kernel))) rfl
set_option maxRecDepth 20000 in
theorem cl_RX8_28 : Cond.classLink RX8 28 (clT 1).1 ∈ wG := wG_of (List.mem_append_right _ (List.mem_of_getElem? (i := 85) (by decide +kernel))) rfl
set_option maxRecDepth 20000 in
theorem cl_RX8_34 : Cond.classLink RX8 34 (clT 5).1 ∈ wG := wG_of (List.mem_append_right _ (List.mem_of_getElem? (i := 87) (by decide +kernel))) rfl
set_option maxRecDepth 20000 in
theorem cl_RX8_41 : Cond.classLink RX8 41 (clT 4).1 ∈ wG := wG_of (List.mem_append_right _ (List.mem_of_getElem? (i := 130) (by decide +kernel))) rfl
set_option maxRecDepth 20000 in
theorem cl_RX0_9 : Cond.classLink RX0 9 (clT 3).1 ∈ wG := wG_of (List.mem_append_right _ (List.mem_of_getElem? (i := 142) (by decide +kernel))) rfl
set_option maxRecDepth 20000 in
theorem cl_RX2_47 : Cond.classLink RX2 47 (clT 0).1 ∈ wG := wG_of (List.mem_append_right _ (List.mem_of_getElem? (i := 432) (by decide +kernel))) rfl
set_option maxRecDepth 20000 in
theorem cl_RX2_130 : Cond.classLink RX2 130 (clT 3).1 ∈ wG := wG_of (List.mem_append_right _ (List.mem_of_getElem? (i := 457) (by decide +kernel))) rfl
set_option maxRecDepth 20000 in
theorem cl_RX4_9 : Cond.classLink RX4 9 (clT 0).1 ∈ wG := wG_of (List.mem_append_right _ (List.mem_of_getElem? (i := 136) (by decide +kernel))) rfl
set_option maxRecDepth 20000 in
theorem cl_RX4_34 : Cond.classLink RX4 34 (clT 1).1 ∈ wG := wG_of (List.mem_append_right _ (List.mem_of_getElem? (i := 171) (by decide +kernel))) rfl
set_option maxRecDepth 20000 in
theorem cl_RL_7 : Cond.classLink RL 7 (clT 7).1 ∈ wG := wG_of (List.mem_append_right _ (List.mem_of_getElem? (i := 19) (by decide +kernel))) rfl
set_option maxRecDepth 20000 in
theorem cl_RL_10 : Cond.classLink RL 10 (clT 8).1 ∈ wG := wG_of (List.mem_append_right _ (List.mem_of_getElem? (i := 994) (by decide +kernel))) rfl
set_option maxRecDepth 20000 in
theorem it_7 : Cond.instantiable (clT 7).1 (clT 7).2.2 ∈ wG := wG_of (List.mem_append_right _ (List.mem_of_getElem? (i := 20) (by decide +kernel))) rfl
set_option maxRecDepth 20000 in
theorem in_7 : Cond.initialized (clT 7).1 ∈ wG := wG_of (List.mem_append_right _ (List.mem_of_getElem? (i := 1) (by decide +kernel))) rfl
set_option maxRecDepth 20000 in
theorem it_0 : Cond.instantiable (clT 0).1 (clT 0).2.2 ∈ wG := wG_of (List.mem_append_right _ (List.mem_of_getElem? (i := 137) (by decide +kernel))) rfl
set_option maxRecDepth 20000 in
theorem in_0 : Cond.initialized (clT 0).1 ∈ wG := wG_of (List.mem_append_right _ (List.mem_of_getElem? (i := 5) (by decide +kernel))) rfl
set_option maxRecDepth 20000 in
theorem it_1 : Cond.instantiable (clT 1).1 (clT 1).2.2 ∈ wG := wG_of (List.mem_append_right _ (List.mem_of_getElem? (i := 618) (by decide +kernel))) rfl
set_option maxRecDepth 20000 in
theorem in_1 : Cond.initialized (clT 1).1 ∈ wG := wG_of (List.mem_append_right _ (List.mem_of_getElem? (i := 17) (by decide +kernel))) rfl
set_option maxRecDepth 20000 in
theorem it_2 : Cond.instantiable (clT 2).1 (clT 2).2.2 ∈ wG := wG_of (List.mem_append_right _ (List.mem_of_getElem? (i := 28) (by decide +kernel))) rfl
set_option maxRecDepth 20000 in
theorem in_2 : Cond.initialized (clT 2).1 ∈ wG := wG_of (List.mem_append_right _ (List.mem_of_getElem? (i := 2) (by decide +kernel))) rfl
set_option maxRecDepth 20000 in
theorem it_3 : Cond.instantiable (clT 3).1 (clT 3).2.2 ∈ wG := wG_of (List.mem_append_right _ (List.mem_of_getElem? (i := 458) (by decide +kernel))) rfl
set_option maxRecDepth 20000 in
theorem in_3 : Cond.initialized (clT 3).1 ∈ wG := wG_of (List.mem_append_right _ (List.mem_of_getElem? (i := 13) (by decide +kernel))) rfl
set_option maxRecDepth 20000 in
theorem it_4 : Cond.instantiable (clT 4).1 (clT 4).2.2 ∈ wG := wG_of (List.mem_append_right _ (List.mem_of_getElem? (i := 131) (by decide +kernel))) rfl
set_option maxRecDepth 20000 in
theorem in_4 : Cond.initialized (clT 4).1 ∈ wG := wG_of (List.mem_append_right _ (List.mem_of_getElem? (i := 4) (by decide +kernel))) rfl
set_option maxRecDepth 20000 in
theorem it_5 : Cond.instantiable (clT 5).1 (clT 5).2.2 ∈ wG := wG_of (List.mem_append_right _ (List.mem_of_getElem? (i := 88) (by decide +kernel))) rfl
set_option maxRecDepth 20000 in
theorem in_5 : Cond.initialized (clT 5).1 ∈ wG := wG_of (List.mem_append_right _ (List.mem_of_getElem? (i := 3) (by decide +kernel))) rfl
set_option maxRecDepth 20000 in
theorem it_6 : Cond.instantiable (clT 6).1 (clT 6).2.2 ∈ wG := wG_of (List.mem_append_right _ (List.mem_of_getElem? (i := 547) (by decide +kernel))) rfl
set_option maxRecDepth 20000 in
theorem in_6 : Cond.initialized (clT 6).1 ∈ wG := wG_of (List.mem_append_right _ (List.mem_of_getElem? (i := 16) (by decide +kernel))) rfl
set_option maxRecDepth 20000 in
theorem it_8 : Cond.instantiable (clT 8).1 (clT 8).2.2 ∈ wG := wG_of (List.mem_append_right _ (List.mem_of_getElem? (i := 995) (by decide +kernel))) rfl
set_option maxRecDepth 20000 in
theorem in_8 : Cond.initialized (clT 8).1 ∈ wG := wG_of (List.mem_append_right _ (List.mem_of_getElem? (i := 6) (by decide +kernel))) rfl
set_option maxRecDepth 20000 in
theorem ac_byte : Cond.arrayClass (newarray.typeOf .byte) ∈ wG := wG_of (List.mem_append_right _ (List.mem_of_getElem? (i := 79) (by decide +kernel))) rfl
set_option maxRecDepth 20000 in
theorem ac_int : Cond.arrayClass (newarray.typeOf .int) ∈ wG := wG_of (List.mem_append_right _ (List.mem_of_getElem? (i := 80) (by decide +kernel))) rfl
set_option maxRecDepth 20000 in
theorem ac_long : Cond.arrayClass (newarray.typeOf .long) ∈ wG := wG_of (List.mem_append_right _ (List.mem_of_getElem? (i := 269) (by decide +kernel))) rfl
set_option maxRecDepth 20000 in
theorem ac_boolean : Cond.arrayClass (newarray.typeOf .boolean) ∈ wG := wG_of (List.mem_append_right _ (List.mem_of_getElem? (i := 1221) (by decide +kernel))) rfl
set_option maxRecDepth 20000 in
theorem oi_im : Cond.instanceMethod Lib.objectInit ∈ wG := wG_of (List.mem_append_right _ (List.mem_of_getElem? (i := 25) (by decide +kernel))) rfl
set_option maxRecDepth 20000 in
theorem oi_cd : Cond.code Lib.objectInit ⟨#[0xb1]⟩ 1 none ∈ wG := wG_of (List.mem_append_right _ (List.mem_of_getElem? (i := 26) (by decide +kernel))) rfl
set_option maxRecDepth 20000 in
theorem cp_nt : Cond.native arraycopyName ∈ wG := wG_of (List.mem_append_right _ (List.mem_of_getElem? (i := 505) (by decide +kernel))) rfl
set_option maxRecDepth 20000 in
theorem cp_st : Cond.static arraycopyName ∈ wG := wG_of (List.mem_append_right _ (List.mem_of_getElem? (i := 504) (by decide +kernel))) rfl
set_option maxRecDepth 20000 in
theorem cp_in : Cond.initialized "java/lang/System" ∈ wG := wG_of (List.mem_append_right _ (List.mem_of_getElem? (i := 15) (by decide +kernel))) rfl
set_option maxRecDepth 20000 in
theorem max_st : Cond.static Lib.Math.max.name ∈ wG := wG_of (List.mem_append_right _ (List.mem_of_getElem? (i := 389) (by decide +kernel))) rfl
set_option maxRecDepth 20000 in
theorem max_cd : Cond.code Lib.Math.max.name Lib.Math.max.code 2 (some .int) ∈ wG := wG_of (List.mem_append_right _ (List.mem_of_getElem? (i := 390) (by decide +kernel))) rfl
set_option maxRecDepth 20000 in
theorem min_st : Cond.static Lib.Math.min.name ∈ wG := wG_of (List.mem_append_right _ (List.mem_of_getElem? (i := 392) (by decide +kernel))) rfl
set_option maxRecDepth 20000 in
theorem min_cd : Cond.code Lib.Math.min.name Lib.Math.min.code 2 (some .int) ∈ wG := wG_of (List.mem_append_right _ (List.mem_of_getElem? (i := 393) (by decide +kernel))) rfl
set_option maxRecDepth 20000 in
theorem math_in : Cond.initialized "java/lang/Math" ∈ wG := wG_of (List.mem_append_right _ (List.mem_of_getElem? (i := 11) (by decide +kernel))) rfl
set_option maxRecDepth 20000 in
theorem xf_RJ0_9 : Cond.fieldLink RJ0 9 "java/lang/String" "value" "[B" ∈ wG := wG_of (List.mem_append_right _ (List.mem_of_getElem? (i := 1611) (by decide +kernel))) rfl
set_option maxRecDepth 20000 in
theorem xf_RJ0_15 : Cond.fieldLink RJ0 15 "java/lang/String" "coder" "B" ∈ wG := wG_of (List.mem_append_right _ (List.mem_of_getElem? (i := 1612) (by decide +kernel))) rfl
set_option maxRecDepth 20000 in
theorem xf_RJ0_38 : Cond.fieldLink RJ0 38 "java/lang/String" "COMPACT_STRINGS" "Z" ∈ wG := wG_of (List.mem_append_right _ (List.mem_of_getElem? (i := 325) (by decide +kernel))) rfl
set_option maxRecDepth 20000 in
theorem xf_RJ0_1053 : Cond.fieldLink RJ0 1053 "jdk/internal/util/Preconditions" "SIOOBE_FORMATTER" "Ljava/util/function/BiFunction;" ∈ wG := wG_of (List.mem_append_right _ (List.mem_of_getElem? (i := 341) (by decide +kernel))) rfl
set_option maxRecDepth 20000 in
theorem sl_RX2_150 : Cond.fieldLink RX2 150 RX2 "LEAST" "[I" ∈ wG := wG_of (List.mem_append_right _ (List.mem_of_getElem? (i := 531) (by decide +kernel))) rfl
set_option maxRecDepth 20000 in
theorem sl_RX2_157 : Cond.fieldLink RX2 157 RX2 "MOST" "[I" ∈ wG := wG_of (List.mem_append_right _ (List.mem_of_getElem? (i := 536) (by decide +kernel))) rfl
