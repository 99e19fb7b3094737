abbrev m_J0_charAt_5068e : Mi := (yJ0_charAt_5068e, cJ0_charAt_5068e, 2, some (.char))
set_option maxRecDepth 20000 in
theorem mk_J0_charAt_5068e : Mk m_J0_charAt_5068e 1 := ⟨by decide +kernel, ⟨by decide +kernel, by decide +kernel⟩, by decide +kernel, by decide, wG_of (List.mem_append_right _ (List.mem_of_getElem? (i := 330) (by decide +kernel))) rfl, wG_of (List.mem_append_right _ (List.mem_of_getElem? (i := 7) (by decide +kernel))) rfl⟩
set_option maxRecDepth 20000 in
theorem im_J0_charAt_5068e : Cond.instanceMethod yJ0_charAt_5068e ∈ wG := wG_of (List.mem_append_right _ (List.mem_of_getElem? (i := 328) (by decide +kernel))) rfl
set_option maxRecDepth 20000 in
theorem se_J0_charAt_5068e : Cond.selects RJ0 yJ0_charAt_5068e yJ0_charAt_5068e ∈ wG := wG_of (List.mem_append_right _ (List.mem_of_getElem? (i := 329) (by decide +kernel))) rfl
abbrev m_J0_checkIndex_df160 : Mi := (yJ0_checkIndex_df160, cJ0_checkIndex_df160, 2, none)
set_option maxRecDepth 20000 in
theorem mk_J0_checkIndex_df160 : Mk m_J0_checkIndex_df160 2 := ⟨by decide +kernel, ⟨by decide +kernel, by decide +kernel⟩, by decide +kernel, by decide, wG_of (List.mem_append_right _ (List.mem_of_getElem? (i := 340) (by decide +kernel))) rfl, wG_of (List.mem_append_right _ (List.mem_of_getElem? (i := 7) (by decide +kernel))) rfl⟩
set_option maxRecDepth 20000 in
theorem st_J0_checkIndex_df160 : Cond.static yJ0_checkIndex_df160 ∈ wG := wG_of (List.mem_append_right _ (List.mem_of_getElem? (i := 339) (by decide +kernel))) rfl
abbrev m_J0_coder_7d493 : Mi := (yJ0_coder_7d493, cJ0_coder_7d493, 1, some (.byte))
set_option maxRecDepth 20000 in
theorem mk_J0_coder_7d493 : Mk m_J0_coder_7d493 0 := ⟨by decide +kernel, ⟨by decide +kernel, by decide +kernel⟩, by decide +kernel, by decide, wG_of (List.mem_append_right _ (List.mem_of_getElem? (i := 324) (by decide +kernel))) rfl, wG_of (List.mem_append_right _ (List.mem_of_getElem? (i := 7) (by decide +kernel))) rfl⟩
set_option maxRecDepth 20000 in
theorem im_J0_coder_7d493 : Cond.instanceMethod yJ0_coder_7d493 ∈ wG := wG_of (List.mem_append_right _ (List.mem_of_getElem? (i := 322) (by decide +kernel))) rfl
set_option maxRecDepth 20000 in
theorem se_J0_coder_7d493 : Cond.selects RJ0 yJ0_coder_7d493 yJ0_coder_7d493 ∈ wG := wG_of (List.mem_append_right _ (List.mem_of_getElem? (i := 323) (by decide +kernel))) rfl
abbrev m_J0_indexOf_0f7a4 : Mi := (yJ0_indexOf_0f7a4, cJ0_indexOf_0f7a4, 2, some (.int))
set_option maxRecDepth 20000 in
theorem mk_J0_indexOf_0f7a4 : Mk m_J0_indexOf_0f7a4 1 := ⟨by decide +kernel, ⟨by decide +kernel, by decide +kernel⟩, by decide +kernel, by decide, wG_of (List.mem_append_right _ (List.mem_of_getElem? (i := 376) (by decide +kernel))) rfl, wG_of (List.mem_append_right _ (List.mem_of_getElem? (i := 7) (by decide +kernel))) rfl⟩
set_option maxRecDepth 20000 in
theorem im_J0_indexOf_0f7a4 : Cond.instanceMethod yJ0_indexOf_0f7a4 ∈ wG := wG_of (List.mem_append_right _ (List.mem_of_getElem? (i := 374) (by decide +kernel))) rfl
set_option maxRecDepth 20000 in
theorem se_J0_indexOf_0f7a4 : Cond.selects RJ0 yJ0_indexOf_0f7a4 yJ0_indexOf_0f7a4 ∈ wG := wG_of (List.mem_append_right _ (List.mem_of_getElem? (i := 375) (by decide +kernel))) rfl
abbrev m_J0_indexOf_7cf53 : Mi := (yJ0_indexOf_7cf53, cJ0_indexOf_7cf53, 3, some (.int))
set_option maxRecDepth 20000 in
theorem mk_J0_indexOf_7cf53 : Mk m_J0_indexOf_7cf53 2 := ⟨by decide +kernel, ⟨by decide +kernel, by decide +kernel⟩, by decide +kernel, by decide, wG_of (List.mem_append_right _ (List.mem_of_getElem? (i := 380) (by decide +kernel))) rfl, wG_of (List.mem_append_right _ (List.mem_of_getElem? (i := 7) (by decide +kernel))) rfl⟩
set_option maxRecDepth 20000 in
theorem im_J0_indexOf_7cf53 : Cond.instanceMethod yJ0_indexOf_7cf53 ∈ wG := wG_of (List.mem_append_right _ (List.mem_of_getElem? (i := 378) (by decide +kernel))) rfl
set_option maxRecDepth 20000 in
theorem se_J0_indexOf_7cf53 : Cond.selects RJ0 yJ0_indexOf_7cf53 yJ0_indexOf_7cf53 ∈ wG := wG_of (List.mem_append_right _ (List.mem_of_getElem? (i := 379) (by decide +kernel))) rfl
abbrev m_J0_isLatin1_aae02 : Mi := (yJ0_isLatin1_aae02, cJ0_isLatin1_aae02, 1, some (.boolean))
set_option maxRecDepth 20000 in
theorem mk_J0_isLatin1_aae02 : Mk m_J0_isLatin1_aae02 0 := ⟨by decide +kernel, ⟨by decide +kernel, by decide +kernel⟩, by decide +kernel, by decide, wG_of (List.mem_append_right _ (List.mem_of_getElem? (i := 334) (by decide +kernel))) rfl, wG_of (List.mem_append_right _ (List.mem_of_getElem? (i := 7) (by decide +kernel))) rfl⟩
set_option maxRecDepth 20000 in
theorem im_J0_isLatin1_aae02 : Cond.instanceMethod yJ0_isLatin1_aae02 ∈ wG := wG_of (List.mem_append_right _ (List.mem_of_getElem? (i := 332) (by decide +kernel))) rfl
set_option maxRecDepth 20000 in
theorem se_J0_isLatin1_aae02 : Cond.selects RJ0 yJ0_isLatin1_aae02 yJ0_isLatin1_aae02 ∈ wG := wG_of (List.mem_append_right _ (List.mem_of_getElem? (i := 333) (by decide +kernel))) rfl
abbrev m_J0_length_8abf5 : Mi := (yJ0_length_8abf5, cJ0_length_8abf5, 1, some (.int))
set_option maxRecDepth 20000 in
theorem mk_J0_length_8abf5 : Mk m_J0_length_8abf5 0 := ⟨by decide +kernel, ⟨by decide +kernel, by decide +kernel⟩, by decide +kernel, by decide, wG_of (List.mem_append_right _ (List.mem_of_getElem? (i := 320) (by decide +kernel))) rfl, wG_of (List.mem_append_right _ (List.mem_of_getElem? (i := 7) (by decide +kernel))) rfl⟩
set_option maxRecDepth 20000 in
theorem im_J0_length_8abf5 : Cond.instanceMethod yJ0_length_8abf5 ∈ wG := wG_of (List.mem_append_right _ (List.mem_of_getElem? (i := 318) (by decide +kernel))) rfl
set_option maxRecDepth 20000 in
theorem se_J0_length_8abf5 : Cond.selects RJ0 yJ0_length_8abf5 yJ0_length_8abf5 ∈ wG := wG_of (List.mem_append_right _ (List.mem_of_getElem? (i := 319) (by decide +kernel))) rfl
abbrev m_J1_canEncode_9a6ad : Mi := (yJ1_canEncode_9a6ad, cJ1_canEncode_9a6ad, 1, some (.boolean))
set_option maxRecDepth 20000 in
theorem mk_J1_canEncode_9a6ad : Mk m_J1_canEncode_9a6ad 1 := ⟨by decide +kernel, ⟨by decide +kernel, by decide +kernel⟩, by decide +kernel, by decide, wG_of (List.mem_append_right _ (List.mem_of_getElem? (i := 387) (by decide +kernel))) rfl, wG_of (List.mem_append_right _ (List.mem_of_getElem? (i := 8) (by decide +kernel))) rfl⟩
set_option maxRecDepth 20000 in
theorem st_J1_canEncode_9a6ad : Cond.static yJ1_canEncode_9a6ad ∈ wG := wG_of (List.mem_append_right _ (List.mem_of_getElem? (i := 386) (by decide +kernel))) rfl
abbrev m_J1_charAt_3b067 : Mi := (yJ1_charAt_3b067, cJ1_charAt_3b067, 2, some (.char))
set_option maxRecDepth 20000 in
theorem mk_J1_charAt_3b067 : Mk m_J1_charAt_3b067 2 := ⟨by decide +kernel, ⟨by decide +kernel, by decide +kernel⟩, by decide +kernel, by decide, wG_of (List.mem_append_right _ (List.mem_of_getElem? (i := 337) (by decide +kernel))) rfl, wG_of (List.mem_append_right _ (List.mem_of_getElem? (i := 8) (by decide +kernel))) rfl⟩
set_option maxRecDepth 20000 in
theorem st_J1_charAt_3b067 : Cond.static yJ1_charAt_3b067 ∈ wG := wG_of (List.mem_append_right _ (List.mem_of_getElem? (i := 336) (by decide +kernel))) rfl
abbrev m_J1_indexOfChar_4cfef : Mi := (yJ1_indexOfChar_4cfef, cJ1_indexOfChar_4cfef, 6, some (.int))
set_option maxRecDepth 20000 in
theorem mk_J1_indexOfChar_4cfef : Mk m_J1_indexOfChar_4cfef 4 := ⟨by decide +kernel, ⟨by decide +kernel, by decide +kernel⟩, by decide +kernel, by decide, wG_of (List.mem_append_right _ (List.mem_of_getElem? (i := 396) (by decide +kernel))) rfl, wG_of (List.mem_append_right _ (List.mem_of_getElem? (i := 8) (by decide +kernel))) rfl⟩
set_option maxRecDepth 20000 in
theorem st_J1_indexOfChar_4cfef : Cond.static yJ1_indexOfChar_4cfef ∈ wG := wG_of (List.mem_append_right _ (List.mem_of_getElem? (i := 395) (by decide +kernel))) rfl
abbrev m_J1_indexOf_4cfef : Mi := (yJ1_indexOf_4cfef, cJ1_indexOf_4cfef, 4, some (.int))
set_option maxRecDepth 20000 in
theorem mk_J1_indexOf_4cfef : Mk m_J1_indexOf_4cfef 4 := ⟨by decide +kernel, ⟨by decide +kernel, by decide +kernel⟩, by decide +kernel, by decide, wG_of (List.mem_append_right _ (List.mem_of_getElem? (i := 384) (by decide +kernel))) rfl, wG_of (List.mem_append_right _ (List.mem_of_getElem? (i := 8) (by decide +kernel))) rfl⟩
set_option maxRecDepth 20000 in
theorem st_J1_indexOf_4cfef : Cond.static yJ1_indexOf_4cfef ∈ wG := wG_of (List.mem_append_right _ (List.mem_of_getElem? (i := 383) (by decide +kernel))) rfl
abbrev m_J3_checkIndex_8e157 : Mi := (yJ3_checkIndex_8e157, cJ3_checkIndex_8e157, 3, some (.int))
set_option maxRecDepth 20000 in
theorem mk_J3_checkIndex_8e157 : Mk m_J3_checkIndex_8e157 3 := ⟨by decide +kernel, ⟨by decide +kernel, by decide +kernel⟩, by decide +kernel, by decide, wG_of (List.mem_append_right _ (List.mem_of_getElem? (i := 345) (by decide +kernel))) rfl, wG_of (List.mem_append_right _ (List.mem_of_getElem? (i := 9) (by decide +kernel))) rfl⟩
set_option maxRecDepth 20000 in
theorem st_J3_checkIndex_8e157 : Cond.static yJ3_checkIndex_8e157 ∈ wG := wG_of (List.mem_append_right _ (List.mem_of_getElem? (i := 344) (by decide +kernel))) rfl
abbrev m_J6_bitCount_0f7a4 : Mi := (yJ6_bitCount_0f7a4, cJ6_bitCount_0f7a4, 1, some (.int))
set_option maxRecDepth 20000 in
theorem mk_J6_bitCount_0f7a4 : Mk m_J6_bitCount_0f7a4 1 := ⟨by decide +kernel, ⟨by decide +kernel, by decide +kernel⟩, by decide +kernel, by decide, wG_of (List.mem_append_right _ (List.mem_of_getElem? (i := 778) (by decide +kernel))) rfl, wG_of (List.mem_append_right _ (List.mem_of_getElem? (i := 18) (by decide +kernel))) rfl⟩
set_option maxRecDepth 20000 in
theorem st_J6_bitCount_0f7a4 : Cond.static yJ6_bitCount_0f7a4 ∈ wG := wG_of (List.mem_append_right _ (List.mem_of_getElem? (i := 777) (by decide +kernel))) rfl
abbrev m_J7_copyOf_59c91 : Mi := (yJ7_copyOf_59c91, cJ7_copyOf_59c91, 3, some (.array (.int)))
set_option maxRecDepth 20000 in
theorem mk_J7_copyOf_59c91 : Mk m_J7_copyOf_59c91 2 := ⟨by decide +kernel, ⟨by decide +kernel, by decide +kernel⟩, by decide +kernel, by decide, wG_of (List.mem_append_right _ (List.mem_of_getElem? (i := 494) (by decide +kernel))) rfl, wG_of (List.mem_append_right _ (List.mem_of_getElem? (i := 14) (by decide +kernel))) rfl⟩
set_option maxRecDepth 20000 in
theorem st_J7_copyOf_59c91 : Cond.static yJ7_copyOf_59c91 ∈ wG := wG_of (List.mem_append_right _ (List.mem_of_getElem? (i := 493) (by decide +kernel))) rfl
abbrev m_J7_fill_53178 : Mi := (yJ7_fill_53178, cJ7_fill_53178, 4, none)
set_option maxRecDepth 20000 in
theorem mk_J7_fill_53178 : Mk m_J7_fill_53178 2 := ⟨by decide +kernel, ⟨by decide +kernel, by decide +kernel⟩, by decide +kernel, by decide, wG_of (List.mem_append_right _ (List.mem_of_getElem? (i := 730) (by decide +kernel))) rfl, wG_of (List.mem_append_right _ (List.mem_of_getElem? (i := 14) (by decide +kernel))) rfl⟩
set_option maxRecDepth 20000 in
theorem st_J7_fill_53178 : Cond.static yJ7_fill_53178 ∈ wG := wG_of (List.mem_append_right _ (List.mem_of_getElem? (i := 729) (by decide +kernel))) rfl
abbrev m_L_law : Mi := (yL_law, cL_law, 4, some (.boolean))
abbrev m_X0_addRule : Mi := (yX0_addRule, cX0_addRule, 2, none)
set_option maxRecDepth 20000 in
theorem mk_X0_addRule : Mk m_X0_addRule 1 := ⟨by decide +kernel, ⟨by decide +kernel, by decide +kernel⟩, by decide +kernel, by decide, wG_of (List.mem_append_right _ (List.mem_of_getElem? (i := 526) (by decide +kernel))) rfl, wG_of (List.mem_append_right _ (List.mem_of_getElem? (i := 5) (by decide +kernel))) rfl⟩
set_option maxRecDepth 20000 in
theorem im_X0_addRule : Cond.instanceMethod yX0_addRule ∈ wG := wG_of (List.mem_append_right _ (List.mem_of_getElem? (i := 524) (by decide +kernel))) rfl
set_option maxRecDepth 20000 in
theorem se_X0_addRule : Cond.selects RX0 yX0_addRule yX0_addRule ∈ wG := wG_of (List.mem_append_right _ (List.mem_of_getElem? (i := 525) (by decide +kernel))) rfl
abbrev m_X0_init : Mi := (yX0_init, cX0_init, 1, none)
set_option maxRecDepth 20000 in
theorem mk_X0_init : Mk m_X0_init 0 := ⟨by decide +kernel, ⟨by decide +kernel, by decide +kernel⟩, by decide +kernel, by decide, wG_of (List.mem_append_right _ (List.mem_of_getElem? (i := 140) (by decide +kernel))) rfl, wG_of (List.mem_append_right _ (List.mem_of_getElem? (i := 5) (by decide +kernel))) rfl⟩
set_option maxRecDepth 20000 in
theorem im_X0_init : Cond.instanceMethod yX0_init ∈ wG := wG_of (List.mem_append_right _ (List.mem_of_getElem? (i := 139) (by decide +kernel))) rfl
abbrev m_X0_number : Mi := (yX0_number, cX0_number, 2, some (.int))
set_option maxRecDepth 20000 in
theorem mk_X0_number : Mk m_X0_number 1 := ⟨by decide +kernel, ⟨by decide +kernel, by decide +kernel⟩, by decide +kernel, by decide, wG_of (List.mem_append_right _ (List.mem_of_getElem? (i := 875) (by decide +kernel))) rfl, wG_of (List.mem_append_right _ (List.mem_of_getElem? (i := 5) (by decide +kernel))) rfl⟩
set_option maxRecDepth 20000 in
theorem im_X0_number : Cond.instanceMethod yX0_number ∈ wG := wG_of (List.mem_append_right _ (List.mem_of_getElem? (i := 873) (by decide +kernel))) rfl
set_option maxRecDepth 20000 in
theorem se_X0_number : Cond.selects RX0 yX0_number yX0_number ∈ wG := wG_of (List.mem_append_right _ (List.mem_of_getElem? (i := 874) (by decide +kernel))) rfl
abbrev m_X1_countsAt : Mi := (yX1_countsAt, cX1_countsAt, 2, some (.boolean))
set_option maxRecDepth 20000 in
theorem mk_X1_countsAt : Mk m_X1_countsAt 1 := ⟨by decide +kernel, ⟨by decide +kernel, by decide +kernel⟩, by decide +kernel, by decide, wG_of (List.mem_append_right _ (List.mem_of_getElem? (i := 734) (by decide +kernel))) rfl, wG_of (List.mem_append_right _ (List.mem_of_getElem? (i := 17) (by decide +kernel))) rfl⟩
set_option maxRecDepth 20000 in
theorem im_X1_countsAt : Cond.instanceMethod yX1_countsAt ∈ wG := wG_of (List.mem_append_right _ (List.mem_of_getElem? (i := 732) (by decide +kernel))) rfl
set_option maxRecDepth 20000 in
theorem se_X1_countsAt : Cond.selects RX1 yX1_countsAt yX1_countsAt ∈ wG := wG_of (List.mem_append_right _ (List.mem_of_getElem? (i := 733) (by decide +kernel))) rfl
abbrev m_X1_init : Mi := (yX1_init, cX1_init, 7, none)
set_option maxRecDepth 20000 in
theorem mk_X1_init : Mk m_X1_init 6 := ⟨by decide +kernel, ⟨by decide +kernel, by decide +kernel⟩, by decide +kernel, by decide, wG_of (List.mem_append_right _ (List.mem_of_getElem? (i := 621) (by decide +kernel))) rfl, wG_of (List.mem_append_right _ (List.mem_of_getElem? (i := 17) (by decide +kernel))) rfl⟩
set_option maxRecDepth 20000 in
theorem im_X1_init : Cond.instanceMethod yX1_init ∈ wG := wG_of (List.mem_append_right _ (List.mem_of_getElem? (i := 620) (by decide +kernel))) rfl
abbrev m_X2_byteAt : Mi := (yX2_byteAt, cX2_byteAt, 2, some (.int))
set_option maxRecDepth 20000 in
theorem mk_X2_byteAt : Mk m_X2_byteAt 1 := ⟨by decide +kernel, ⟨by decide +kernel, by decide +kernel⟩, by decide +kernel, by decide, wG_of (List.mem_append_right _ (List.mem_of_getElem? (i := 297) (by decide +kernel))) rfl, wG_of (List.mem_append_right _ (List.mem_of_getElem? (i := 2) (by decide +kernel))) rfl⟩
set_option maxRecDepth 20000 in
theorem im_X2_byteAt : Cond.instanceMethod yX2_byteAt ∈ wG := wG_of (List.mem_append_right _ (List.mem_of_getElem? (i := 296) (by decide +kernel))) rfl
set_option maxRecDepth 20000 in
theorem se_X2_byteAt : Cond.selects RX2 yX2_byteAt yX2_byteAt ∈ wG := wG_of (List.mem_append_left _ (List.mem_of_getElem? (i := 1) (by decide +kernel))) rfl
abbrev m_X2_init : Mi := (yX2_init, cX2_init, 1, none)
set_option maxRecDepth 20000 in
theorem mk_X2_init : Mk m_X2_init 0 := ⟨by decide +kernel, ⟨by decide +kernel, by decide +kernel⟩, by decide +kernel, by decide, wG_of (List.mem_append_right _ (List.mem_of_getElem? (i := 31) (by decide +kernel))) rfl, wG_of (List.mem_append_right _ (List.mem_of_getElem? (i := 2) (by decide +kernel))) rfl⟩
set_option maxRecDepth 20000 in
theorem im_X2_init : Cond.instanceMethod yX2_init ∈ wG := wG_of (List.mem_append_right _ (List.mem_of_getElem? (i := 30) (by decide +kernel))) rfl
abbrev m_X2_isBlank : Mi := (yX2_isBlank, cX2_isBlank, 1, some (.boolean))
set_option maxRecDepth 20000 in
theorem mk_X2_isBlank : Mk m_X2_isBlank 1 := ⟨by decide +kernel, ⟨by decide +kernel, by decide +kernel⟩, by decide +kernel, by decide, wG_of (List.mem_append_right _ (List.mem_of_getElem? (i := 300) (by decide +kernel))) rfl, wG_of (List.mem_append_right _ (List.mem_of_getElem? (i := 2) (by decide +kernel))) rfl⟩
set_option maxRecDepth 20000 in
theorem st_X2_isBlank : Cond.static yX2_isBlank ∈ wG := wG_of (List.mem_append_right _ (List.mem_of_getElem? (i := 299) (by decide +kernel))) rfl
abbrev m_X2_isDigit : Mi := (yX2_isDigit, cX2_isDigit, 1, some (.boolean))
set_option maxRecDepth 20000 in
theorem mk_X2_isDigit : Mk m_X2_isDigit 1 := ⟨by decide +kernel, ⟨by decide +kernel, by decide +kernel⟩, by decide +kernel, by decide, wG_of (List.mem_append_right _ (List.mem_of_getElem? (i := 367) (by decide +kernel))) rfl, wG_of (List.mem_append_right _ (List.mem_of_getElem? (i := 2) (by decide +kernel))) rfl⟩
set_option maxRecDepth 20000 in
theorem st_X2_isDigit : Cond.static yX2_isDigit ∈ wG := wG_of (List.mem_append_right _ (List.mem_of_getElem? (i := 366) (by decide +kernel))) rfl
abbrev m_X2_isLetter : Mi := (yX2_isLetter, cX2_isLetter, 1, some (.boolean))
set_option maxRecDepth 20000 in
theorem mk_X2_isLetter : Mk m_X2_isLetter 1 := ⟨by decide +kernel, ⟨by decide +kernel, by decide +kernel⟩, by decide +kernel, by decide, wG_of (List.mem_append_right _ (List.mem_of_getElem? (i := 307) (by decide +kernel))) rfl, wG_of (List.mem_append_right _ (List.mem_of_getElem? (i := 2) (by decide +kernel))) rfl⟩
set_option maxRecDepth 20000 in
theorem st_X2_isLetter : Cond.static yX2_isLetter ∈ wG := wG_of (List.mem_append_right _ (List.mem_of_getElem? (i := 306) (by decide +kernel))) rfl
abbrev m_X2_isWord : Mi := (yX2_isWord, cX2_isWord, 6, some (.boolean))
set_option maxRecDepth 20000 in
theorem mk_X2_isWord : Mk m_X2_isWord 2 := ⟨by decide +kernel, ⟨by decide +kernel, by decide +kernel⟩, by decide +kernel, by decide, wG_of (List.mem_append_right _ (List.mem_of_getElem? (i := 315) (by decide +kernel))) rfl, wG_of (List.mem_append_right _ (List.mem_of_getElem? (i := 2) (by decide +kernel))) rfl⟩
set_option maxRecDepth 20000 in
theorem im_X2_isWord : Cond.instanceMethod yX2_isWord ∈ wG := wG_of (List.mem_append_right _ (List.mem_of_getElem? (i := 314) (by decide +kernel))) rfl
set_option maxRecDepth 20000 in
theorem se_X2_isWord : Cond.selects RX2 yX2_isWord yX2_isWord ∈ wG := wG_of (List.mem_append_left _ (List.mem_of_getElem? (i := 4) (by decide +kernel))) rfl
abbrev m_X2_levelOf : Mi := (yX2_levelOf, cX2_levelOf, 1, some (.int))
set_option maxRecDepth 20000 in
theorem mk_X2_levelOf : Mk m_X2_levelOf 1 := ⟨by decide +kernel, ⟨by decide +kernel, by decide +kernel⟩, by decide +kernel, by decide, wG_of (List.mem_append_right _ (List.mem_of_getElem? (i := 489) (by decide +kernel))) rfl, wG_of (List.mem_append_right _ (List.mem_of_getElem? (i := 2) (by decide +kernel))) rfl⟩
set_option maxRecDepth 20000 in
theorem st_X2_levelOf : Cond.static yX2_levelOf ∈ wG := wG_of (List.mem_append_right _ (List.mem_of_getElem? (i := 488) (by decide +kernel))) rfl
abbrev m_X2_nextToken : Mi := (yX2_nextToken, cX2_nextToken, 2, none)
set_option maxRecDepth 20000 in
theorem mk_X2_nextToken : Mk m_X2_nextToken 0 := ⟨by decide +kernel, ⟨by decide +kernel, by decide +kernel⟩, by decide +kernel, by decide, wG_of (List.mem_append_right _ (List.mem_of_getElem? (i := 437) (by decide +kernel))) rfl, wG_of (List.mem_append_right _ (List.mem_of_getElem? (i := 2) (by decide +kernel))) rfl⟩
set_option maxRecDepth 20000 in
theorem im_X2_nextToken : Cond.instanceMethod yX2_nextToken ∈ wG := wG_of (List.mem_append_right _ (List.mem_of_getElem? (i := 436) (by decide +kernel))) rfl
set_option maxRecDepth 20000 in
theorem se_X2_nextToken : Cond.selects RX2 yX2_nextToken yX2_nextToken ∈ wG := wG_of (List.mem_append_left _ (List.mem_of_getElem? (i := 6) (by decide +kernel))) rfl
abbrev m_X2_putBytes : Mi := (yX2_putBytes, cX2_putBytes, 3, none)
set_option maxRecDepth 20000 in
theorem mk_X2_putBytes : Mk m_X2_putBytes 1 := ⟨by decide +kernel, ⟨by decide +kernel, by decide +kernel⟩, by decide +kernel, by decide, wG_of (List.mem_append_right _ (List.mem_of_getElem? (i := 277) (by decide +kernel))) rfl, wG_of (List.mem_append_right _ (List.mem_of_getElem? (i := 2) (by decide +kernel))) rfl⟩
set_option maxRecDepth 20000 in
theorem im_X2_putBytes : Cond.instanceMethod yX2_putBytes ∈ wG := wG_of (List.mem_append_right _ (List.mem_of_getElem? (i := 275) (by decide +kernel))) rfl
set_option maxRecDepth 20000 in
theorem se_X2_putBytes : Cond.selects RX2 yX2_putBytes yX2_putBytes ∈ wG := wG_of (List.mem_append_right _ (List.mem_of_getElem? (i := 276) (by decide +kernel))) rfl
abbrev m_X2_putStep : Mi := (yX2_putStep, cX2_putStep, 2, none)
set_option maxRecDepth 20000 in
theorem mk_X2_putStep : Mk m_X2_putStep 1 := ⟨by decide +kernel, ⟨by decide +kernel, by decide +kernel⟩, by decide +kernel, by decide, wG_of (List.mem_append_right _ (List.mem_of_getElem? (i := 478) (by decide +kernel))) rfl, wG_of (List.mem_append_right _ (List.mem_of_getElem? (i := 2) (by decide +kernel))) rfl⟩
set_option maxRecDepth 20000 in
theorem im_X2_putStep : Cond.instanceMethod yX2_putStep ∈ wG := wG_of (List.mem_append_right _ (List.mem_of_getElem? (i := 477) (by decide +kernel))) rfl
set_option maxRecDepth 20000 in
theorem se_X2_putStep : Cond.selects RX2 yX2_putStep yX2_putStep ∈ wG := wG_of (List.mem_append_left _ (List.mem_of_getElem? (i := 15) (by decide +kernel))) rfl
abbrev m_X2_readCounts : Mi := (yX2_readCounts, cX2_readCounts, 4, none)
set_option maxRecDepth 20000 in
theorem mk_X2_readCounts : Mk m_X2_readCounts 1 := ⟨by decide +kernel, ⟨by decide +kernel, by decide +kernel⟩, by decide +kernel, by decide, wG_of (List.mem_append_right _ (List.mem_of_getElem? (i := 441) (by decide +kernel))) rfl, wG_of (List.mem_append_right _ (List.mem_of_getElem? (i := 2) (by decide +kernel))) rfl⟩
set_option maxRecDepth 20000 in
theorem im_X2_readCounts : Cond.instanceMethod yX2_readCounts ∈ wG := wG_of (List.mem_append_right _ (List.mem_of_getElem? (i := 440) (by decide +kernel))) rfl
set_option maxRecDepth 20000 in
theorem se_X2_readCounts : Cond.selects RX2 yX2_readCounts yX2_readCounts ∈ wG := wG_of (List.mem_append_left _ (List.mem_of_getElem? (i := 7) (by decide +kernel))) rfl
abbrev m_X2_readLeaf : Mi := (yX2_readLeaf, cX2_readLeaf, 3, none)
set_option maxRecDepth 20000 in
theorem mk_X2_readLeaf : Mk m_X2_readLeaf 2 := ⟨by decide +kernel, ⟨by decide +kernel, by decide +kernel⟩, by decide +kernel, by decide, wG_of (List.mem_append_right _ (List.mem_of_getElem? (i := 482) (by decide +kernel))) rfl, wG_of (List.mem_append_right _ (List.mem_of_getElem? (i := 2) (by decide +kernel))) rfl⟩
set_option maxRecDepth 20000 in
theorem im_X2_readLeaf : Cond.instanceMethod yX2_readLeaf ∈ wG := wG_of (List.mem_append_right _ (List.mem_of_getElem? (i := 481) (by decide +kernel))) rfl
set_option maxRecDepth 20000 in
theorem se_X2_readLeaf : Cond.selects RX2 yX2_readLeaf yX2_readLeaf ∈ wG := wG_of (List.mem_append_left _ (List.mem_of_getElem? (i := 16) (by decide +kernel))) rfl
abbrev m_X2_readLevel : Mi := (yX2_readLevel, cX2_readLevel, 6, none)
set_option maxRecDepth 20000 in
theorem mk_X2_readLevel : Mk m_X2_readLevel 2 := ⟨by decide +kernel, ⟨by decide +kernel, by decide +kernel⟩, by decide +kernel, by decide, wG_of (List.mem_append_right _ (List.mem_of_getElem? (i := 470) (by decide +kernel))) rfl, wG_of (List.mem_append_right _ (List.mem_of_getElem? (i := 2) (by decide +kernel))) rfl⟩
set_option maxRecDepth 20000 in
theorem im_X2_readLevel : Cond.instanceMethod yX2_readLevel ∈ wG := wG_of (List.mem_append_right _ (List.mem_of_getElem? (i := 469) (by decide +kernel))) rfl
set_option maxRecDepth 20000 in
theorem se_X2_readLevel : Cond.selects RX2 yX2_readLevel yX2_readLevel ∈ wG := wG_of (List.mem_append_left _ (List.mem_of_getElem? (i := 13) (by decide +kernel))) rfl
abbrev m_X2_readNot : Mi := (yX2_readNot, cX2_readNot, 2, none)
set_option maxRecDepth 20000 in
theorem mk_X2_readNot : Mk m_X2_readNot 1 := ⟨by decide +kernel, ⟨by decide +kernel, by decide +kernel⟩, by decide +kernel, by decide, wG_of (List.mem_append_right _ (List.mem_of_getElem? (i := 486) (by decide +kernel))) rfl, wG_of (List.mem_append_right _ (List.mem_of_getElem? (i := 2) (by decide +kernel))) rfl⟩
set_option maxRecDepth 20000 in
theorem im_X2_readNot : Cond.instanceMethod yX2_readNot ∈ wG := wG_of (List.mem_append_right _ (List.mem_of_getElem? (i := 485) (by decide +kernel))) rfl
set_option maxRecDepth 20000 in
theorem se_X2_readNot : Cond.selects RX2 yX2_readNot yX2_readNot ∈ wG := wG_of (List.mem_append_left _ (List.mem_of_getElem? (i := 17) (by decide +kernel))) rfl
abbrev m_X2_readOnce : Mi := (yX2_readOnce, cX2_readOnce, 5, none)
set_option maxRecDepth 20000 in
theorem mk_X2_readOnce : Mk m_X2_readOnce 1 := ⟨by decide +kernel, ⟨by decide +kernel, by decide +kernel⟩, by decide +kernel, by decide, wG_of (List.mem_append_right _ (List.mem_of_getElem? (i := 530) (by decide +kernel))) rfl, wG_of (List.mem_append_right _ (List.mem_of_getElem? (i := 2) (by decide +kernel))) rfl⟩
set_option maxRecDepth 20000 in
theorem im_X2_readOnce : Cond.instanceMethod yX2_readOnce ∈ wG := wG_of (List.mem_append_right _ (List.mem_of_getElem? (i := 529) (by decide +kernel))) rfl
set_option maxRecDepth 20000 in
theorem se_X2_readOnce : Cond.selects RX2 yX2_readOnce yX2_readOnce ∈ wG := wG_of (List.mem_append_left _ (List.mem_of_getElem? (i := 18) (by decide +kernel))) rfl
abbrev m_X2_readTape : Mi := (yX2_readTape, cX2_readTape, 3, some (.object "RestPay$Act"))
set_option maxRecDepth 20000 in
theorem mk_X2_readTape : Mk m_X2_readTape 0 := ⟨by decide +kernel, ⟨by decide +kernel, by decide +kernel⟩, by decide +kernel, by decide, wG_of (List.mem_append_right _ (List.mem_of_getElem? (i := 289) (by decide +kernel))) rfl, wG_of (List.mem_append_right _ (List.mem_of_getElem? (i := 2) (by decide +kernel))) rfl⟩
set_option maxRecDepth 20000 in
theorem im_X2_readTape : Cond.instanceMethod yX2_readTape ∈ wG := wG_of (List.mem_append_right _ (List.mem_of_getElem? (i := 287) (by decide +kernel))) rfl
set_option maxRecDepth 20000 in
theorem se_X2_readTape : Cond.selects RX2 yX2_readTape yX2_readTape ∈ wG := wG_of (List.mem_append_right _ (List.mem_of_getElem? (i := 288) (by decide +kernel))) rfl
abbrev m_X2_readUnit : Mi := (yX2_readUnit, cX2_readUnit, 2, none)
set_option maxRecDepth 20000 in
theorem mk_X2_readUnit : Mk m_X2_readUnit 1 := ⟨by decide +kernel, ⟨by decide +kernel, by decide +kernel⟩, by decide +kernel, by decide, wG_of (List.mem_append_right _ (List.mem_of_getElem? (i := 474) (by decide +kernel))) rfl, wG_of (List.mem_append_right _ (List.mem_of_getElem? (i := 2) (by decide +kernel))) rfl⟩
set_option maxRecDepth 20000 in
theorem im_X2_readUnit : Cond.instanceMethod yX2_readUnit ∈ wG := wG_of (List.mem_append_right _ (List.mem_of_getElem? (i := 473) (by decide +kernel))) rfl
set_option maxRecDepth 20000 in
theorem se_X2_readUnit : Cond.selects RX2 yX2_readUnit yX2_readUnit ∈ wG := wG_of (List.mem_append_left _ (List.mem_of_getElem? (i := 14) (by decide +kernel))) rfl
abbrev m_X2_refuse : Mi := (yX2_refuse, cX2_refuse, 2, none)
set_option maxRecDepth 20000 in
theorem mk_X2_refuse : Mk m_X2_refuse 1 := ⟨by decide +kernel, ⟨by decide +kernel, by decide +kernel⟩, by decide +kernel, by decide, wG_of (List.mem_append_right _ (List.mem_of_getElem? (i := 445) (by decide +kernel))) rfl, wG_of (List.mem_append_right _ (List.mem_of_getElem? (i := 2) (by decide +kernel))) rfl⟩
set_option maxRecDepth 20000 in
theorem im_X2_refuse : Cond.instanceMethod yX2_refuse ∈ wG := wG_of (List.mem_append_right _ (List.mem_of_getElem? (i := 444) (by decide +kernel))) rfl
set_option maxRecDepth 20000 in
theorem se_X2_refuse : Cond.selects RX2 yX2_refuse yX2_refuse ∈ wG := wG_of (List.mem_append_left _ (List.mem_of_getElem? (i := 8) (by decide +kernel))) rfl
abbrev m_X2_scanNumber : Mi := (yX2_scanNumber, cX2_scanNumber, 4, some (.int))
set_option maxRecDepth 20000 in
theorem mk_X2_scanNumber : Mk m_X2_scanNumber 0 := ⟨by decide +kernel, ⟨by decide +kernel, by decide +kernel⟩, by decide +kernel, by decide, wG_of (List.mem_append_right _ (List.mem_of_getElem? (i := 371) (by decide +kernel))) rfl, wG_of (List.mem_append_right _ (List.mem_of_getElem? (i := 2) (by decide +kernel))) rfl⟩
set_option maxRecDepth 20000 in
theorem im_X2_scanNumber : Cond.instanceMethod yX2_scanNumber ∈ wG := wG_of (List.mem_append_right _ (List.mem_of_getElem? (i := 370) (by decide +kernel))) rfl
set_option maxRecDepth 20000 in
theorem se_X2_scanNumber : Cond.selects RX2 yX2_scanNumber yX2_scanNumber ∈ wG := wG_of (List.mem_append_left _ (List.mem_of_getElem? (i := 5) (by decide +kernel))) rfl
abbrev m_X2_scanToken : Mi := (yX2_scanToken, cX2_scanToken, 2, some (.int))
set_option maxRecDepth 20000 in
theorem mk_X2_scanToken : Mk m_X2_scanToken 0 := ⟨by decide +kernel, ⟨by decide +kernel, by decide +kernel⟩, by decide +kernel, by decide, wG_of (List.mem_append_right _ (List.mem_of_getElem? (i := 304) (by decide +kernel))) rfl, wG_of (List.mem_append_right _ (List.mem_of_getElem? (i := 2) (by decide +kernel))) rfl⟩
set_option maxRecDepth 20000 in
theorem im_X2_scanToken : Cond.instanceMethod yX2_scanToken ∈ wG := wG_of (List.mem_append_right _ (List.mem_of_getElem? (i := 303) (by decide +kernel))) rfl
set_option maxRecDepth 20000 in
theorem se_X2_scanToken : Cond.selects RX2 yX2_scanToken yX2_scanToken ∈ wG := wG_of (List.mem_append_left _ (List.mem_of_getElem? (i := 2) (by decide +kernel))) rfl
abbrev m_X2_scanWord : Mi := (yX2_scanWord, cX2_scanWord, 3, some (.int))
set_option maxRecDepth 20000 in
theorem mk_X2_scanWord : Mk m_X2_scanWord 0 := ⟨by decide +kernel, ⟨by decide +kernel, by decide +kernel⟩, by decide +kernel, by decide, wG_of (List.mem_append_right _ (List.mem_of_getElem? (i := 311) (by decide +kernel))) rfl, wG_of (List.mem_append_right _ (List.mem_of_getElem? (i := 2) (by decide +kernel))) rfl⟩
set_option maxRecDepth 20000 in
theorem im_X2_scanWord : Cond.instanceMethod yX2_scanWord ∈ wG := wG_of (List.mem_append_right _ (List.mem_of_getElem? (i := 310) (by decide +kernel))) rfl
set_option maxRecDepth 20000 in
theorem se_X2_scanWord : Cond.selects RX2 yX2_scanWord yX2_scanWord ∈ wG := wG_of (List.mem_append_left _ (List.mem_of_getElem? (i := 3) (by decide +kernel))) rfl
abbrev m_X2_splitTape : Mi := (yX2_splitTape, cX2_splitTape, 4, none)
set_option maxRecDepth 20000 in
theorem mk_X2_splitTape : Mk m_X2_splitTape 0 := ⟨by decide +kernel, ⟨by decide +kernel, by decide +kernel⟩, by decide +kernel, by decide, wG_of (List.mem_append_right _ (List.mem_of_getElem? (i := 293) (by decide +kernel))) rfl, wG_of (List.mem_append_right _ (List.mem_of_getElem? (i := 2) (by decide +kernel))) rfl⟩
set_option maxRecDepth 20000 in
theorem im_X2_splitTape : Cond.instanceMethod yX2_splitTape ∈ wG := wG_of (List.mem_append_right _ (List.mem_of_getElem? (i := 292) (by decide +kernel))) rfl
set_option maxRecDepth 20000 in
theorem se_X2_splitTape : Cond.selects RX2 yX2_splitTape yX2_splitTape ∈ wG := wG_of (List.mem_append_left _ (List.mem_of_getElem? (i := 0) (by decide +kernel))) rfl
abbrev m_X2_take : Mi := (yX2_take, cX2_take, 2, none)
set_option maxRecDepth 20000 in
theorem mk_X2_take : Mk m_X2_take 1 := ⟨by decide +kernel, ⟨by decide +kernel, by decide +kernel⟩, by decide +kernel, by decide, wG_of (List.mem_append_right _ (List.mem_of_getElem? (i := 466) (by decide +kernel))) rfl, wG_of (List.mem_append_right _ (List.mem_of_getElem? (i := 2) (by decide +kernel))) rfl⟩
set_option maxRecDepth 20000 in
theorem im_X2_take : Cond.instanceMethod yX2_take ∈ wG := wG_of (List.mem_append_right _ (List.mem_of_getElem? (i := 465) (by decide +kernel))) rfl
set_option maxRecDepth 20000 in
theorem se_X2_take : Cond.selects RX2 yX2_take yX2_take ∈ wG := wG_of (List.mem_append_left _ (List.mem_of_getElem? (i := 12) (by decide +kernel))) rfl
abbrev m_X2_takeKind : Mi := (yX2_takeKind, cX2_takeKind, 2, some (.int))
set_option maxRecDepth 20000 in
theorem mk_X2_takeKind : Mk m_X2_takeKind 0 := ⟨by decide +kernel, ⟨by decide +kernel, by decide +kernel⟩, by decide +kernel, by decide, wG_of (List.mem_append_right _ (List.mem_of_getElem? (i := 449) (by decide +kernel))) rfl, wG_of (List.mem_append_right _ (List.mem_of_getElem? (i := 2) (by decide +kernel))) rfl⟩
set_option maxRecDepth 20000 in
theorem im_X2_takeKind : Cond.instanceMethod yX2_takeKind ∈ wG := wG_of (List.mem_append_right _ (List.mem_of_getElem? (i := 448) (by decide +kernel))) rfl
set_option maxRecDepth 20000 in
theorem se_X2_takeKind : Cond.selects RX2 yX2_takeKind yX2_takeKind ∈ wG := wG_of (List.mem_append_left _ (List.mem_of_getElem? (i := 9) (by decide +kernel))) rfl
abbrev m_X2_takeNumber : Mi := (yX2_takeNumber, cX2_takeNumber, 4, some (.int))
set_option maxRecDepth 20000 in
theorem mk_X2_takeNumber : Mk m_X2_takeNumber 2 := ⟨by decide +kernel, ⟨by decide +kernel, by decide +kernel⟩, by decide +kernel, by decide, wG_of (List.mem_append_right _ (List.mem_of_getElem? (i := 453) (by decide +kernel))) rfl, wG_of (List.mem_append_right _ (List.mem_of_getElem? (i := 2) (by decide +kernel))) rfl⟩
set_option maxRecDepth 20000 in
theorem im_X2_takeNumber : Cond.instanceMethod yX2_takeNumber ∈ wG := wG_of (List.mem_append_right _ (List.mem_of_getElem? (i := 452) (by decide +kernel))) rfl
set_option maxRecDepth 20000 in
theorem se_X2_takeNumber : Cond.selects RX2 yX2_takeNumber yX2_takeNumber ∈ wG := wG_of (List.mem_append_left _ (List.mem_of_getElem? (i := 10) (by decide +kernel))) rfl
abbrev m_X2_takeWhen : Mi := (yX2_takeWhen, cX2_takeWhen, 1, some (.array (.int)))
set_option maxRecDepth 20000 in
theorem mk_X2_takeWhen : Mk m_X2_takeWhen 0 := ⟨by decide +kernel, ⟨by decide +kernel, by decide +kernel⟩, by decide +kernel, by decide, wG_of (List.mem_append_right _ (List.mem_of_getElem? (i := 462) (by decide +kernel))) rfl, wG_of (List.mem_append_right _ (List.mem_of_getElem? (i := 2) (by decide +kernel))) rfl⟩
set_option maxRecDepth 20000 in
theorem im_X2_takeWhen : Cond.instanceMethod yX2_takeWhen ∈ wG := wG_of (List.mem_append_right _ (List.mem_of_getElem? (i := 461) (by decide +kernel))) rfl
set_option maxRecDepth 20000 in
theorem se_X2_takeWhen : Cond.selects RX2 yX2_takeWhen yX2_takeWhen ∈ wG := wG_of (List.mem_append_left _ (List.mem_of_getElem? (i := 11) (by decide +kernel))) rfl
abbrev m_X3_init : Mi := (yX3_init, cX3_init, 4, none)
set_option maxRecDepth 20000 in
theorem mk_X3_init : Mk m_X3_init 3 := ⟨by decide +kernel, ⟨by decide +kernel, by decide +kernel⟩, by decide +kernel, by decide, wG_of (List.mem_append_right _ (List.mem_of_getElem? (i := 508) (by decide +kernel))) rfl, wG_of (List.mem_append_right _ (List.mem_of_getElem? (i := 13) (by decide +kernel))) rfl⟩
set_option maxRecDepth 20000 in
theorem im_X3_init : Cond.instanceMethod yX3_init ∈ wG := wG_of (List.mem_append_right _ (List.mem_of_getElem? (i := 507) (by decide +kernel))) rfl
abbrev m_X4_averageFor : Mi := (yX4_averageFor, cX4_averageFor, 7, some (.int))
set_option maxRecDepth 20000 in
theorem mk_X4_averageFor : Mk m_X4_averageFor 1 := ⟨by decide +kernel, ⟨by decide +kernel, by decide +kernel⟩, by decide +kernel, by decide, wG_of (List.mem_append_right _ (List.mem_of_getElem? (i := 871) (by decide +kernel))) rfl, wG_of (List.mem_append_right _ (List.mem_of_getElem? (i := 4) (by decide +kernel))) rfl⟩
set_option maxRecDepth 20000 in
theorem im_X4_averageFor : Cond.instanceMethod yX4_averageFor ∈ wG := wG_of (List.mem_append_right _ (List.mem_of_getElem? (i := 869) (by decide +kernel))) rfl
set_option maxRecDepth 20000 in
theorem se_X4_averageFor : Cond.selects RX4 yX4_averageFor yX4_averageFor ∈ wG := wG_of (List.mem_append_right _ (List.mem_of_getElem? (i := 870) (by decide +kernel))) rfl
abbrev m_X4_countIn : Mi := (yX4_countIn, cX4_countIn, 8, some (.int))
set_option maxRecDepth 20000 in
theorem mk_X4_countIn : Mk m_X4_countIn 1 := ⟨by decide +kernel, ⟨by decide +kernel, by decide +kernel⟩, by decide +kernel, by decide, wG_of (List.mem_append_right _ (List.mem_of_getElem? (i := 834) (by decide +kernel))) rfl, wG_of (List.mem_append_right _ (List.mem_of_getElem? (i := 4) (by decide +kernel))) rfl⟩
set_option maxRecDepth 20000 in
theorem im_X4_countIn : Cond.instanceMethod yX4_countIn ∈ wG := wG_of (List.mem_append_right _ (List.mem_of_getElem? (i := 832) (by decide +kernel))) rfl
set_option maxRecDepth 20000 in
theorem se_X4_countIn : Cond.selects RX4 yX4_countIn yX4_countIn ∈ wG := wG_of (List.mem_append_right _ (List.mem_of_getElem? (i := 833) (by decide +kernel))) rfl
abbrev m_X4_dueOn : Mi := (yX4_dueOn, cX4_dueOn, 6, some (.long))
set_option maxRecDepth 20000 in
theorem mk_X4_dueOn : Mk m_X4_dueOn 1 := ⟨by decide +kernel, ⟨by decide +kernel, by decide +kernel⟩, by decide +kernel, by decide, wG_of (List.mem_append_right _ (List.mem_of_getElem? (i := 937) (by decide +kernel))) rfl, wG_of (List.mem_append_right _ (List.mem_of_getElem? (i := 4) (by decide +kernel))) rfl⟩
set_option maxRecDepth 20000 in
theorem im_X4_dueOn : Cond.instanceMethod yX4_dueOn ∈ wG := wG_of (List.mem_append_right _ (List.mem_of_getElem? (i := 935) (by decide +kernel))) rfl
set_option maxRecDepth 20000 in
theorem se_X4_dueOn : Cond.selects RX4 yX4_dueOn yX4_dueOn ∈ wG := wG_of (List.mem_append_right _ (List.mem_of_getElem? (i := 936) (by decide +kernel))) rfl
abbrev m_X4_emptyIn : Mi := (yX4_emptyIn, cX4_emptyIn, 2, some (.int))
set_option maxRecDepth 20000 in
theorem mk_X4_emptyIn : Mk m_X4_emptyIn 1 := ⟨by decide +kernel, ⟨by decide +kernel, by decide +kernel⟩, by decide +kernel, by decide, wG_of (List.mem_append_right _ (List.mem_of_getElem? (i := 859) (by decide +kernel))) rfl, wG_of (List.mem_append_right _ (List.mem_of_getElem? (i := 4) (by decide +kernel))) rfl⟩
set_option maxRecDepth 20000 in
theorem im_X4_emptyIn : Cond.instanceMethod yX4_emptyIn ∈ wG := wG_of (List.mem_append_right _ (List.mem_of_getElem? (i := 857) (by decide +kernel))) rfl
set_option maxRecDepth 20000 in
theorem se_X4_emptyIn : Cond.selects RX4 yX4_emptyIn yX4_emptyIn ∈ wG := wG_of (List.mem_append_right _ (List.mem_of_getElem? (i := 858) (by decide +kernel))) rfl
abbrev m_X4_findChain : Mi := (yX4_findChain, cX4_findChain, 6, none)
set_option maxRecDepth 20000 in
theorem mk_X4_findChain : Mk m_X4_findChain 1 := ⟨by decide +kernel, ⟨by decide +kernel, by decide +kernel⟩, by decide +kernel, by decide, wG_of (List.mem_append_right _ (List.mem_of_getElem? (i := 915) (by decide +kernel))) rfl, wG_of (List.mem_append_right _ (List.mem_of_getElem? (i := 4) (by decide +kernel))) rfl⟩
set_option maxRecDepth 20000 in
theorem im_X4_findChain : Cond.instanceMethod yX4_findChain ∈ wG := wG_of (List.mem_append_right _ (List.mem_of_getElem? (i := 913) (by decide +kernel))) rfl
set_option maxRecDepth 20000 in
theorem se_X4_findChain : Cond.selects RX4 yX4_findChain yX4_findChain ∈ wG := wG_of (List.mem_append_right _ (List.mem_of_getElem? (i := 914) (by decide +kernel))) rfl
abbrev m_X4_habit : Mi := (yX4_habit, cX4_habit, 6, some (.int))
set_option maxRecDepth 20000 in
theorem mk_X4_habit : Mk m_X4_habit 2 := ⟨by decide +kernel, ⟨by decide +kernel, by decide +kernel⟩, by decide +kernel, by decide, wG_of (List.mem_append_right _ (List.mem_of_getElem? (i := 848) (by decide +kernel))) rfl, wG_of (List.mem_append_right _ (List.mem_of_getElem? (i := 4) (by decide +kernel))) rfl⟩
set_option maxRecDepth 20000 in
theorem im_X4_habit : Cond.instanceMethod yX4_habit ∈ wG := wG_of (List.mem_append_right _ (List.mem_of_getElem? (i := 847) (by decide +kernel))) rfl
set_option maxRecDepth 20000 in
theorem se_X4_habit : Cond.selects RX4 yX4_habit yX4_habit ∈ wG := wG_of (List.mem_append_left _ (List.mem_of_getElem? (i := 39) (by decide +kernel))) rfl
abbrev m_X4_init : Mi := (yX4_init, cX4_init, 1, none)
set_option maxRecDepth 20000 in
theorem mk_X4_init : Mk m_X4_init 0 := ⟨by decide +kernel, ⟨by decide +kernel, by decide +kernel⟩, by decide +kernel, by decide, wG_of (List.mem_append_right _ (List.mem_of_getElem? (i := 134) (by decide +kernel))) rfl, wG_of (List.mem_append_right _ (List.mem_of_getElem? (i := 4) (by decide +kernel))) rfl⟩
set_option maxRecDepth 20000 in
theorem im_X4_init : Cond.instanceMethod yX4_init ∈ wG := wG_of (List.mem_append_right _ (List.mem_of_getElem? (i := 133) (by decide +kernel))) rfl
abbrev m_X4_insert : Mi := (yX4_insert, cX4_insert, 4, none)
set_option maxRecDepth 20000 in
theorem mk_X4_insert : Mk m_X4_insert 1 := ⟨by decide +kernel, ⟨by decide +kernel, by decide +kernel⟩, by decide +kernel, by decide, wG_of (List.mem_append_right _ (List.mem_of_getElem? (i := 911) (by decide +kernel))) rfl, wG_of (List.mem_append_right _ (List.mem_of_getElem? (i := 4) (by decide +kernel))) rfl⟩
set_option maxRecDepth 20000 in
theorem im_X4_insert : Cond.instanceMethod yX4_insert ∈ wG := wG_of (List.mem_append_right _ (List.mem_of_getElem? (i := 910) (by decide +kernel))) rfl
set_option maxRecDepth 20000 in
theorem se_X4_insert : Cond.selects RX4 yX4_insert yX4_insert ∈ wG := wG_of (List.mem_append_left _ (List.mem_of_getElem? (i := 42) (by decide +kernel))) rfl
abbrev m_X4_join : Mi := (yX4_join, cX4_join, 3, some (.int))
set_option maxRecDepth 20000 in
theorem mk_X4_join : Mk m_X4_join 3 := ⟨by decide +kernel, ⟨by decide +kernel, by decide +kernel⟩, by decide +kernel, by decide, wG_of (List.mem_append_right _ (List.mem_of_getElem? (i := 851) (by decide +kernel))) rfl, wG_of (List.mem_append_right _ (List.mem_of_getElem? (i := 4) (by decide +kernel))) rfl⟩
set_option maxRecDepth 20000 in
theorem st_X4_join : Cond.static yX4_join ∈ wG := wG_of (List.mem_append_right _ (List.mem_of_getElem? (i := 850) (by decide +kernel))) rfl
abbrev m_X4_joinClaims : Mi := (yX4_joinClaims, cX4_joinClaims, 4, none)
set_option maxRecDepth 20000 in
theorem mk_X4_joinClaims : Mk m_X4_joinClaims 1 := ⟨by decide +kernel, ⟨by decide +kernel, by decide +kernel⟩, by decide +kernel, by decide, wG_of (List.mem_append_right _ (List.mem_of_getElem? (i := 950) (by decide +kernel))) rfl, wG_of (List.mem_append_right _ (List.mem_of_getElem? (i := 4) (by decide +kernel))) rfl⟩
set_option maxRecDepth 20000 in
theorem im_X4_joinClaims : Cond.instanceMethod yX4_joinClaims ∈ wG := wG_of (List.mem_append_right _ (List.mem_of_getElem? (i := 948) (by decide +kernel))) rfl
set_option maxRecDepth 20000 in
theorem se_X4_joinClaims : Cond.selects RX4 yX4_joinClaims yX4_joinClaims ∈ wG := wG_of (List.mem_append_right _ (List.mem_of_getElem? (i := 949) (by decide +kernel))) rfl
abbrev m_X4_leaf : Mi := (yX4_leaf, cX4_leaf, 5, some (.int))
set_option maxRecDepth 20000 in
theorem mk_X4_leaf : Mk m_X4_leaf 2 := ⟨by decide +kernel, ⟨by decide +kernel, by decide +kernel⟩, by decide +kernel, by decide, wG_of (List.mem_append_right _ (List.mem_of_getElem? (i := 844) (by decide +kernel))) rfl, wG_of (List.mem_append_right _ (List.mem_of_getElem? (i := 4) (by decide +kernel))) rfl⟩
set_option maxRecDepth 20000 in
theorem im_X4_leaf : Cond.instanceMethod yX4_leaf ∈ wG := wG_of (List.mem_append_right _ (List.mem_of_getElem? (i := 843) (by decide +kernel))) rfl
set_option maxRecDepth 20000 in
theorem se_X4_leaf : Cond.selects RX4 yX4_leaf yX4_leaf ∈ wG := wG_of (List.mem_append_left _ (List.mem_of_getElem? (i := 38) (by decide +kernel))) rfl
abbrev m_X4_links : Mi := (yX4_links, cX4_links, 1, some (.int))
set_option maxRecDepth 20000 in
theorem mk_X4_links : Mk m_X4_links 0 := ⟨by decide +kernel, ⟨by decide +kernel, by decide +kernel⟩, by decide +kernel, by decide, wG_of (List.mem_append_right _ (List.mem_of_getElem? (i := 923) (by decide +kernel))) rfl, wG_of (List.mem_append_right _ (List.mem_of_getElem? (i := 4) (by decide +kernel))) rfl⟩
set_option maxRecDepth 20000 in
theorem im_X4_links : Cond.instanceMethod yX4_links ∈ wG := wG_of (List.mem_append_right _ (List.mem_of_getElem? (i := 921) (by decide +kernel))) rfl
set_option maxRecDepth 20000 in
theorem se_X4_links : Cond.selects RX4 yX4_links yX4_links ∈ wG := wG_of (List.mem_append_right _ (List.mem_of_getElem? (i := 922) (by decide +kernel))) rfl
abbrev m_X4_listHolidays : Mi := (yX4_listHolidays, cX4_listHolidays, 4, none)
set_option maxRecDepth 20000 in
theorem mk_X4_listHolidays : Mk m_X4_listHolidays 1 := ⟨by decide +kernel, ⟨by decide +kernel, by decide +kernel⟩, by decide +kernel, by decide, wG_of (List.mem_append_right _ (List.mem_of_getElem? (i := 906) (by decide +kernel))) rfl, wG_of (List.mem_append_right _ (List.mem_of_getElem? (i := 4) (by decide +kernel))) rfl⟩
set_option maxRecDepth 20000 in
theorem im_X4_listHolidays : Cond.instanceMethod yX4_listHolidays ∈ wG := wG_of (List.mem_append_right _ (List.mem_of_getElem? (i := 904) (by decide +kernel))) rfl
set_option maxRecDepth 20000 in
theorem se_X4_listHolidays : Cond.selects RX4 yX4_listHolidays yX4_listHolidays ∈ wG := wG_of (List.mem_append_right _ (List.mem_of_getElem? (i := 905) (by decide +kernel))) rfl
abbrev m_X4_listedAt : Mi := (yX4_listedAt, cX4_listedAt, 2, some (.object "RestPay$Fact"))
set_option maxRecDepth 20000 in
theorem mk_X4_listedAt : Mk m_X4_listedAt 1 := ⟨by decide +kernel, ⟨by decide +kernel, by decide +kernel⟩, by decide +kernel, by decide, wG_of (List.mem_append_right _ (List.mem_of_getElem? (i := 919) (by decide +kernel))) rfl, wG_of (List.mem_append_right _ (List.mem_of_getElem? (i := 4) (by decide +kernel))) rfl⟩
set_option maxRecDepth 20000 in
theorem im_X4_listedAt : Cond.instanceMethod yX4_listedAt ∈ wG := wG_of (List.mem_append_right _ (List.mem_of_getElem? (i := 917) (by decide +kernel))) rfl
set_option maxRecDepth 20000 in
theorem se_X4_listedAt : Cond.selects RX4 yX4_listedAt yX4_listedAt ∈ wG := wG_of (List.mem_append_right _ (List.mem_of_getElem? (i := 918) (by decide +kernel))) rfl
abbrev m_X4_noteClaim : Mi := (yX4_noteClaim, cX4_noteClaim, 4, none)
set_option maxRecDepth 20000 in
theorem mk_X4_noteClaim : Mk m_X4_noteClaim 1 := ⟨by decide +kernel, ⟨by decide +kernel, by decide +kernel⟩, by decide +kernel, by decide, wG_of (List.mem_append_right _ (List.mem_of_getElem? (i := 955) (by decide +kernel))) rfl, wG_of (List.mem_append_right _ (List.mem_of_getElem? (i := 4) (by decide +kernel))) rfl⟩
set_option maxRecDepth 20000 in
theorem im_X4_noteClaim : Cond.instanceMethod yX4_noteClaim ∈ wG := wG_of (List.mem_append_right _ (List.mem_of_getElem? (i := 954) (by decide +kernel))) rfl
set_option maxRecDepth 20000 in
theorem se_X4_noteClaim : Cond.selects RX4 yX4_noteClaim yX4_noteClaim ∈ wG := wG_of (List.mem_append_left _ (List.mem_of_getElem? (i := 44) (by decide +kernel))) rfl
abbrev m_X4_open : Mi := (yX4_open, cX4_open, 4, none)
set_option maxRecDepth 20000 in
theorem mk_X4_open : Mk m_X4_open 3 := ⟨by decide +kernel, ⟨by decide +kernel, by decide +kernel⟩, by decide +kernel, by decide, wG_of (List.mem_append_right _ (List.mem_of_getElem? (i := 828) (by decide +kernel))) rfl, wG_of (List.mem_append_right _ (List.mem_of_getElem? (i := 4) (by decide +kernel))) rfl⟩
set_option maxRecDepth 20000 in
theorem im_X4_open : Cond.instanceMethod yX4_open ∈ wG := wG_of (List.mem_append_right _ (List.mem_of_getElem? (i := 826) (by decide +kernel))) rfl
set_option maxRecDepth 20000 in
theorem se_X4_open : Cond.selects RX4 yX4_open yX4_open ∈ wG := wG_of (List.mem_append_right _ (List.mem_of_getElem? (i := 827) (by decide +kernel))) rfl
abbrev m_X4_owedFor : Mi := (yX4_owedFor, cX4_owedFor, 5, some (.int))
set_option maxRecDepth 20000 in
theorem mk_X4_owedFor : Mk m_X4_owedFor 2 := ⟨by decide +kernel, ⟨by decide +kernel, by decide +kernel⟩, by decide +kernel, by decide, wG_of (List.mem_append_right _ (List.mem_of_getElem? (i := 891) (by decide +kernel))) rfl, wG_of (List.mem_append_right _ (List.mem_of_getElem? (i := 4) (by decide +kernel))) rfl⟩
set_option maxRecDepth 20000 in
theorem im_X4_owedFor : Cond.instanceMethod yX4_owedFor ∈ wG := wG_of (List.mem_append_right _ (List.mem_of_getElem? (i := 889) (by decide +kernel))) rfl
set_option maxRecDepth 20000 in
theorem se_X4_owedFor : Cond.selects RX4 yX4_owedFor yX4_owedFor ∈ wG := wG_of (List.mem_append_right _ (List.mem_of_getElem? (i := 890) (by decide +kernel))) rfl
abbrev m_X4_valueOf : Mi := (yX4_valueOf, cX4_valueOf, 6, some (.int))
set_option maxRecDepth 20000 in
theorem mk_X4_valueOf : Mk m_X4_valueOf 2 := ⟨by decide +kernel, ⟨by decide +kernel, by decide +kernel⟩, by decide +kernel, by decide, wG_of (List.mem_append_right _ (List.mem_of_getElem? (i := 840) (by decide +kernel))) rfl, wG_of (List.mem_append_right _ (List.mem_of_getElem? (i := 4) (by decide +kernel))) rfl⟩
set_option maxRecDepth 20000 in
theorem im_X4_valueOf : Cond.instanceMethod yX4_valueOf ∈ wG := wG_of (List.mem_append_right _ (List.mem_of_getElem? (i := 839) (by decide +kernel))) rfl
set_option maxRecDepth 20000 in
theorem se_X4_valueOf : Cond.selects RX4 yX4_valueOf yX4_valueOf ∈ wG := wG_of (List.mem_append_left _ (List.mem_of_getElem? (i := 37) (by decide +kernel))) rfl
abbrev m_X4_withInterest : Mi := (yX4_withInterest, cX4_withInterest, 3, some (.long))
set_option maxRecDepth 20000 in
theorem mk_X4_withInterest : Mk m_X4_withInterest 2 := ⟨by decide +kernel, ⟨by decide +kernel, by decide +kernel⟩, by decide +kernel, by decide, wG_of (List.mem_append_right _ (List.mem_of_getElem? (i := 941) (by decide +kernel))) rfl, wG_of (List.mem_append_right _ (List.mem_of_getElem? (i := 4) (by decide +kernel))) rfl⟩
set_option maxRecDepth 20000 in
theorem im_X4_withInterest : Cond.instanceMethod yX4_withInterest ∈ wG := wG_of (List.mem_append_right _ (List.mem_of_getElem? (i := 940) (by decide +kernel))) rfl
set_option maxRecDepth 20000 in
theorem se_X4_withInterest : Cond.selects RX4 yX4_withInterest yX4_withInterest ∈ wG := wG_of (List.mem_append_left _ (List.mem_of_getElem? (i := 43) (by decide +kernel))) rfl
abbrev m_X6_addBank : Mi := (yX6_addBank, cX6_addBank, 5, none)
set_option maxRecDepth 20000 in
theorem mk_X6_addBank : Mk m_X6_addBank 3 := ⟨by decide +kernel, ⟨by decide +kernel, by decide +kernel⟩, by decide +kernel, by decide, wG_of (List.mem_append_right _ (List.mem_of_getElem? (i := 757) (by decide +kernel))) rfl, wG_of (List.mem_append_right _ (List.mem_of_getElem? (i := 3) (by decide +kernel))) rfl⟩
set_option maxRecDepth 20000 in
theorem im_X6_addBank : Cond.instanceMethod yX6_addBank ∈ wG := wG_of (List.mem_append_right _ (List.mem_of_getElem? (i := 756) (by decide +kernel))) rfl
set_option maxRecDepth 20000 in
theorem se_X6_addBank : Cond.selects RX6 yX6_addBank yX6_addBank ∈ wG := wG_of (List.mem_append_left _ (List.mem_of_getElem? (i := 25) (by decide +kernel))) rfl
abbrev m_X6_boundGaps : Mi := (yX6_boundGaps, cX6_boundGaps, 3, none)
set_option maxRecDepth 20000 in
theorem mk_X6_boundGaps : Mk m_X6_boundGaps 1 := ⟨by decide +kernel, ⟨by decide +kernel, by decide +kernel⟩, by decide +kernel, by decide, wG_of (List.mem_append_right _ (List.mem_of_getElem? (i := 797) (by decide +kernel))) rfl, wG_of (List.mem_append_right _ (List.mem_of_getElem? (i := 3) (by decide +kernel))) rfl⟩
set_option maxRecDepth 20000 in
theorem im_X6_boundGaps : Cond.instanceMethod yX6_boundGaps ∈ wG := wG_of (List.mem_append_right _ (List.mem_of_getElem? (i := 796) (by decide +kernel))) rfl
set_option maxRecDepth 20000 in
theorem se_X6_boundGaps : Cond.selects RX6 yX6_boundGaps yX6_boundGaps ∈ wG := wG_of (List.mem_append_left _ (List.mem_of_getElem? (i := 32) (by decide +kernel))) rfl
abbrev m_X6_comesToRest : Mi := (yX6_comesToRest, cX6_comesToRest, 4, some (.boolean))
set_option maxRecDepth 20000 in
theorem mk_X6_comesToRest : Mk m_X6_comesToRest 1 := ⟨by decide +kernel, ⟨by decide +kernel, by decide +kernel⟩, by decide +kernel, by decide, wG_of (List.mem_append_right _ (List.mem_of_getElem? (i := 785) (by decide +kernel))) rfl, wG_of (List.mem_append_right _ (List.mem_of_getElem? (i := 3) (by decide +kernel))) rfl⟩
set_option maxRecDepth 20000 in
theorem im_X6_comesToRest : Cond.instanceMethod yX6_comesToRest ∈ wG := wG_of (List.mem_append_right _ (List.mem_of_getElem? (i := 784) (by decide +kernel))) rfl
set_option maxRecDepth 20000 in
theorem se_X6_comesToRest : Cond.selects RX6 yX6_comesToRest yX6_comesToRest ∈ wG := wG_of (List.mem_append_left _ (List.mem_of_getElem? (i := 29) (by decide +kernel))) rfl
abbrev m_X6_gather : Mi := (yX6_gather, cX6_gather, 4, none)
set_option maxRecDepth 20000 in
theorem mk_X6_gather : Mk m_X6_gather 2 := ⟨by decide +kernel, ⟨by decide +kernel, by decide +kernel⟩, by decide +kernel, by decide, wG_of (List.mem_append_right _ (List.mem_of_getElem? (i := 751) (by decide +kernel))) rfl, wG_of (List.mem_append_right _ (List.mem_of_getElem? (i := 3) (by decide +kernel))) rfl⟩
set_option maxRecDepth 20000 in
theorem im_X6_gather : Cond.instanceMethod yX6_gather ∈ wG := wG_of (List.mem_append_right _ (List.mem_of_getElem? (i := 750) (by decide +kernel))) rfl
set_option maxRecDepth 20000 in
theorem se_X6_gather : Cond.selects RX6 yX6_gather yX6_gather ∈ wG := wG_of (List.mem_append_left _ (List.mem_of_getElem? (i := 24) (by decide +kernel))) rfl
abbrev m_X6_hopelessBanks : Mi := (yX6_hopelessBanks, cX6_hopelessBanks, 5, some (.int))
set_option maxRecDepth 20000 in
theorem mk_X6_hopelessBanks : Mk m_X6_hopelessBanks 0 := ⟨by decide +kernel, ⟨by decide +kernel, by decide +kernel⟩, by decide +kernel, by decide, wG_of (List.mem_append_right _ (List.mem_of_getElem? (i := 775) (by decide +kernel))) rfl, wG_of (List.mem_append_right _ (List.mem_of_getElem? (i := 3) (by decide +kernel))) rfl⟩
set_option maxRecDepth 20000 in
theorem im_X6_hopelessBanks : Cond.instanceMethod yX6_hopelessBanks ∈ wG := wG_of (List.mem_append_right _ (List.mem_of_getElem? (i := 774) (by decide +kernel))) rfl
set_option maxRecDepth 20000 in
theorem se_X6_hopelessBanks : Cond.selects RX6 yX6_hopelessBanks yX6_hopelessBanks ∈ wG := wG_of (List.mem_append_left _ (List.mem_of_getElem? (i := 28) (by decide +kernel))) rfl
abbrev m_X6_init : Mi := (yX6_init, cX6_init, 1, none)
set_option maxRecDepth 20000 in
theorem mk_X6_init : Mk m_X6_init 0 := ⟨by decide +kernel, ⟨by decide +kernel, by decide +kernel⟩, by decide +kernel, by decide, wG_of (List.mem_append_right _ (List.mem_of_getElem? (i := 91) (by decide +kernel))) rfl, wG_of (List.mem_append_right _ (List.mem_of_getElem? (i := 3) (by decide +kernel))) rfl⟩
set_option maxRecDepth 20000 in
theorem im_X6_init : Cond.instanceMethod yX6_init ∈ wG := wG_of (List.mem_append_right _ (List.mem_of_getElem? (i := 90) (by decide +kernel))) rfl
abbrev m_X6_leaveOut : Mi := (yX6_leaveOut, cX6_leaveOut, 4, some (.int))
set_option maxRecDepth 20000 in
theorem mk_X6_leaveOut : Mk m_X6_leaveOut 0 := ⟨by decide +kernel, ⟨by decide +kernel, by decide +kernel⟩, by decide +kernel, by decide, wG_of (List.mem_append_right _ (List.mem_of_getElem? (i := 771) (by decide +kernel))) rfl, wG_of (List.mem_append_right _ (List.mem_of_getElem? (i := 3) (by decide +kernel))) rfl⟩
set_option maxRecDepth 20000 in
theorem im_X6_leaveOut : Cond.instanceMethod yX6_leaveOut ∈ wG := wG_of (List.mem_append_right _ (List.mem_of_getElem? (i := 770) (by decide +kernel))) rfl
set_option maxRecDepth 20000 in
theorem se_X6_leaveOut : Cond.selects RX6 yX6_leaveOut yX6_leaveOut ∈ wG := wG_of (List.mem_append_left _ (List.mem_of_getElem? (i := 27) (by decide +kernel))) rfl
abbrev m_X6_lowerByBanks : Mi := (yX6_lowerByBanks, cX6_lowerByBanks, 7, some (.boolean))
set_option maxRecDepth 20000 in
theorem mk_X6_lowerByBanks : Mk m_X6_lowerByBanks 1 := ⟨by decide +kernel, ⟨by decide +kernel, by decide +kernel⟩, by decide +kernel, by decide, wG_of (List.mem_append_right _ (List.mem_of_getElem? (i := 793) (by decide +kernel))) rfl, wG_of (List.mem_append_right _ (List.mem_of_getElem? (i := 3) (by decide +kernel))) rfl⟩
set_option maxRecDepth 20000 in
theorem im_X6_lowerByBanks : Cond.instanceMethod yX6_lowerByBanks ∈ wG := wG_of (List.mem_append_right _ (List.mem_of_getElem? (i := 792) (by decide +kernel))) rfl
set_option maxRecDepth 20000 in
theorem se_X6_lowerByBanks : Cond.selects RX6 yX6_lowerByBanks yX6_lowerByBanks ∈ wG := wG_of (List.mem_append_left _ (List.mem_of_getElem? (i := 31) (by decide +kernel))) rfl
abbrev m_X6_lowerByGaps : Mi := (yX6_lowerByGaps, cX6_lowerByGaps, 4, some (.boolean))
set_option maxRecDepth 20000 in
theorem mk_X6_lowerByGaps : Mk m_X6_lowerByGaps 0 := ⟨by decide +kernel, ⟨by decide +kernel, by decide +kernel⟩, by decide +kernel, by decide, wG_of (List.mem_append_right _ (List.mem_of_getElem? (i := 789) (by decide +kernel))) rfl, wG_of (List.mem_append_right _ (List.mem_of_getElem? (i := 3) (by decide +kernel))) rfl⟩
set_option maxRecDepth 20000 in
theorem im_X6_lowerByGaps : Cond.instanceMethod yX6_lowerByGaps ∈ wG := wG_of (List.mem_append_right _ (List.mem_of_getElem? (i := 788) (by decide +kernel))) rfl
set_option maxRecDepth 20000 in
theorem se_X6_lowerByGaps : Cond.selects RX6 yX6_lowerByGaps yX6_lowerByGaps ∈ wG := wG_of (List.mem_append_left _ (List.mem_of_getElem? (i := 30) (by decide +kernel))) rfl
abbrev m_X6_reachFrom : Mi := (yX6_reachFrom, cX6_reachFrom, 4, none)
set_option maxRecDepth 20000 in
theorem mk_X6_reachFrom : Mk m_X6_reachFrom 1 := ⟨by decide +kernel, ⟨by decide +kernel, by decide +kernel⟩, by decide +kernel, by decide, wG_of (List.mem_append_right _ (List.mem_of_getElem? (i := 801) (by decide +kernel))) rfl, wG_of (List.mem_append_right _ (List.mem_of_getElem? (i := 3) (by decide +kernel))) rfl⟩
set_option maxRecDepth 20000 in
theorem im_X6_reachFrom : Cond.instanceMethod yX6_reachFrom ∈ wG := wG_of (List.mem_append_right _ (List.mem_of_getElem? (i := 800) (by decide +kernel))) rfl
set_option maxRecDepth 20000 in
theorem se_X6_reachFrom : Cond.selects RX6 yX6_reachFrom yX6_reachFrom ∈ wG := wG_of (List.mem_append_left _ (List.mem_of_getElem? (i := 33) (by decide +kernel))) rfl
abbrev m_X6_setPosts : Mi := (yX6_setPosts, cX6_setPosts, 4, none)
set_option maxRecDepth 20000 in
theorem mk_X6_setPosts : Mk m_X6_setPosts 1 := ⟨by decide +kernel, ⟨by decide +kernel, by decide +kernel⟩, by decide +kernel, by decide, wG_of (List.mem_append_right _ (List.mem_of_getElem? (i := 761) (by decide +kernel))) rfl, wG_of (List.mem_append_right _ (List.mem_of_getElem? (i := 3) (by decide +kernel))) rfl⟩
set_option maxRecDepth 20000 in
theorem im_X6_setPosts : Cond.instanceMethod yX6_setPosts ∈ wG := wG_of (List.mem_append_right _ (List.mem_of_getElem? (i := 760) (by decide +kernel))) rfl
set_option maxRecDepth 20000 in
theorem se_X6_setPosts : Cond.selects RX6 yX6_setPosts yX6_setPosts ∈ wG := wG_of (List.mem_append_left _ (List.mem_of_getElem? (i := 26) (by decide +kernel))) rfl
abbrev m_X6_spread : Mi := (yX6_spread, cX6_spread, 4, some (.int))
set_option maxRecDepth 20000 in
theorem mk_X6_spread : Mk m_X6_spread 2 := ⟨by decide +kernel, ⟨by decide +kernel, by decide +kernel⟩, by decide +kernel, by decide, wG_of (List.mem_append_right _ (List.mem_of_getElem? (i := 747) (by decide +kernel))) rfl, wG_of (List.mem_append_right _ (List.mem_of_getElem? (i := 3) (by decide +kernel))) rfl⟩
set_option maxRecDepth 20000 in
theorem im_X6_spread : Cond.instanceMethod yX6_spread ∈ wG := wG_of (List.mem_append_right _ (List.mem_of_getElem? (i := 745) (by decide +kernel))) rfl
set_option maxRecDepth 20000 in
theorem se_X6_spread : Cond.selects RX6 yX6_spread yX6_spread ∈ wG := wG_of (List.mem_append_right _ (List.mem_of_getElem? (i := 746) (by decide +kernel))) rfl
abbrev m_X6_writeSpans : Mi := (yX6_writeSpans, cX6_writeSpans, 6, none)
set_option maxRecDepth 20000 in
theorem mk_X6_writeSpans : Mk m_X6_writeSpans 1 := ⟨by decide +kernel, ⟨by decide +kernel, by decide +kernel⟩, by decide +kernel, by decide, wG_of (List.mem_append_right _ (List.mem_of_getElem? (i := 805) (by decide +kernel))) rfl, wG_of (List.mem_append_right _ (List.mem_of_getElem? (i := 3) (by decide +kernel))) rfl⟩
set_option maxRecDepth 20000 in
theorem im_X6_writeSpans : Cond.instanceMethod yX6_writeSpans ∈ wG := wG_of (List.mem_append_right _ (List.mem_of_getElem? (i := 804) (by decide +kernel))) rfl
set_option maxRecDepth 20000 in
theorem se_X6_writeSpans : Cond.selects RX6 yX6_writeSpans yX6_writeSpans ∈ wG := wG_of (List.mem_append_left _ (List.mem_of_getElem? (i := 34) (by decide +kernel))) rfl
abbrev m_X7_forget : Mi := (yX7_forget, cX7_forget, 3, none)
set_option maxRecDepth 20000 in
theorem mk_X7_forget : Mk m_X7_forget 1 := ⟨by decide +kernel, ⟨by decide +kernel, by decide +kernel⟩, by decide +kernel, by decide, wG_of (List.mem_append_right _ (List.mem_of_getElem? (i := 742) (by decide +kernel))) rfl, wG_of (List.mem_append_right _ (List.mem_of_getElem? (i := 16) (by decide +kernel))) rfl⟩
set_option maxRecDepth 20000 in
theorem im_X7_forget : Cond.instanceMethod yX7_forget ∈ wG := wG_of (List.mem_append_right _ (List.mem_of_getElem? (i := 741) (by decide +kernel))) rfl
set_option maxRecDepth 20000 in
theorem se_X7_forget : Cond.selects RX7 yX7_forget yX7_forget ∈ wG := wG_of (List.mem_append_left _ (List.mem_of_getElem? (i := 23) (by decide +kernel))) rfl
abbrev m_X7_init : Mi := (yX7_init, cX7_init, 3, none)
set_option maxRecDepth 20000 in
theorem mk_X7_init : Mk m_X7_init 2 := ⟨by decide +kernel, ⟨by decide +kernel, by decide +kernel⟩, by decide +kernel, by decide, wG_of (List.mem_append_right _ (List.mem_of_getElem? (i := 550) (by decide +kernel))) rfl, wG_of (List.mem_append_right _ (List.mem_of_getElem? (i := 16) (by decide +kernel))) rfl⟩
set_option maxRecDepth 20000 in
theorem im_X7_init : Cond.instanceMethod yX7_init ∈ wG := wG_of (List.mem_append_right _ (List.mem_of_getElem? (i := 549) (by decide +kernel))) rfl
abbrev m_X7_keep : Mi := (yX7_keep, cX7_keep, 2, none)
set_option maxRecDepth 20000 in
theorem mk_X7_keep : Mk m_X7_keep 1 := ⟨by decide +kernel, ⟨by decide +kernel, by decide +kernel⟩, by decide +kernel, by decide, wG_of (List.mem_append_right _ (List.mem_of_getElem? (i := 681) (by decide +kernel))) rfl, wG_of (List.mem_append_right _ (List.mem_of_getElem? (i := 16) (by decide +kernel))) rfl⟩
set_option maxRecDepth 20000 in
theorem im_X7_keep : Cond.instanceMethod yX7_keep ∈ wG := wG_of (List.mem_append_right _ (List.mem_of_getElem? (i := 679) (by decide +kernel))) rfl
set_option maxRecDepth 20000 in
theorem se_X7_keep : Cond.selects RX7 yX7_keep yX7_keep ∈ wG := wG_of (List.mem_append_right _ (List.mem_of_getElem? (i := 680) (by decide +kernel))) rfl
abbrev m_X7_layOut : Mi := (yX7_layOut, cX7_layOut, 4, none)
set_option maxRecDepth 20000 in
theorem mk_X7_layOut : Mk m_X7_layOut 2 := ⟨by decide +kernel, ⟨by decide +kernel, by decide +kernel⟩, by decide +kernel, by decide, wG_of (List.mem_append_right _ (List.mem_of_getElem? (i := 727) (by decide +kernel))) rfl, wG_of (List.mem_append_right _ (List.mem_of_getElem? (i := 16) (by decide +kernel))) rfl⟩
set_option maxRecDepth 20000 in
theorem im_X7_layOut : Cond.instanceMethod yX7_layOut ∈ wG := wG_of (List.mem_append_right _ (List.mem_of_getElem? (i := 725) (by decide +kernel))) rfl
set_option maxRecDepth 20000 in
theorem se_X7_layOut : Cond.selects RX7 yX7_layOut yX7_layOut ∈ wG := wG_of (List.mem_append_right _ (List.mem_of_getElem? (i := 726) (by decide +kernel))) rfl
abbrev m_X7_note : Mi := (yX7_note, cX7_note, 3, none)
set_option maxRecDepth 20000 in
theorem mk_X7_note : Mk m_X7_note 1 := ⟨by decide +kernel, ⟨by decide +kernel, by decide +kernel⟩, by decide +kernel, by decide, wG_of (List.mem_append_right _ (List.mem_of_getElem? (i := 738) (by decide +kernel))) rfl, wG_of (List.mem_append_right _ (List.mem_of_getElem? (i := 16) (by decide +kernel))) rfl⟩
set_option maxRecDepth 20000 in
theorem im_X7_note : Cond.instanceMethod yX7_note ∈ wG := wG_of (List.mem_append_right _ (List.mem_of_getElem? (i := 737) (by decide +kernel))) rfl
set_option maxRecDepth 20000 in
theorem se_X7_note : Cond.selects RX7 yX7_note yX7_note ∈ wG := wG_of (List.mem_append_left _ (List.mem_of_getElem? (i := 22) (by decide +kernel))) rfl
abbrev m_X7_totalPaid : Mi := (yX7_totalPaid, cX7_totalPaid, 4, some (.int))
set_option maxRecDepth 20000 in
theorem mk_X7_totalPaid : Mk m_X7_totalPaid 1 := ⟨by decide +kernel, ⟨by decide +kernel, by decide +kernel⟩, by decide +kernel, by decide, wG_of (List.mem_append_right _ (List.mem_of_getElem? (i := 766) (by decide +kernel))) rfl, wG_of (List.mem_append_right _ (List.mem_of_getElem? (i := 16) (by decide +kernel))) rfl⟩
set_option maxRecDepth 20000 in
theorem im_X7_totalPaid : Cond.instanceMethod yX7_totalPaid ∈ wG := wG_of (List.mem_append_right _ (List.mem_of_getElem? (i := 764) (by decide +kernel))) rfl
set_option maxRecDepth 20000 in
theorem se_X7_totalPaid : Cond.selects RX7 yX7_totalPaid yX7_totalPaid ∈ wG := wG_of (List.mem_append_right _ (List.mem_of_getElem? (i := 765) (by decide +kernel))) rfl
abbrev m_X8_about : Mi := (yX8_about, cX8_about, 3, some (.int))
set_option maxRecDepth 20000 in
theorem mk_X8_about : Mk m_X8_about 1 := ⟨by decide +kernel, ⟨by decide +kernel, by decide +kernel⟩, by decide +kernel, by decide, wG_of (List.mem_append_right _ (List.mem_of_getElem? (i := 993) (by decide +kernel))) rfl, wG_of (List.mem_append_right _ (List.mem_of_getElem? (i := 1) (by decide +kernel))) rfl⟩
set_option maxRecDepth 20000 in
theorem im_X8_about : Cond.instanceMethod yX8_about ∈ wG := wG_of (List.mem_append_right _ (List.mem_of_getElem? (i := 991) (by decide +kernel))) rfl
set_option maxRecDepth 20000 in
theorem se_X8_about : Cond.selects RX8 yX8_about yX8_about ∈ wG := wG_of (List.mem_append_right _ (List.mem_of_getElem? (i := 992) (by decide +kernel))) rfl
abbrev m_X8_act : Mi := (yX8_act, cX8_act, 3, some (.int))
set_option maxRecDepth 20000 in
theorem mk_X8_act : Mk m_X8_act 1 := ⟨by decide +kernel, ⟨by decide +kernel, by decide +kernel⟩, by decide +kernel, by decide, wG_of (List.mem_append_right _ (List.mem_of_getElem? (i := 285) (by decide +kernel))) rfl, wG_of (List.mem_append_right _ (List.mem_of_getElem? (i := 1) (by decide +kernel))) rfl⟩
set_option maxRecDepth 20000 in
theorem im_X8_act : Cond.instanceMethod yX8_act ∈ wG := wG_of (List.mem_append_right _ (List.mem_of_getElem? (i := 283) (by decide +kernel))) rfl
set_option maxRecDepth 20000 in
theorem se_X8_act : Cond.selects RX8 yX8_act yX8_act ∈ wG := wG_of (List.mem_append_right _ (List.mem_of_getElem? (i := 284) (by decide +kernel))) rfl
abbrev m_X8_at : Mi := (yX8_at, cX8_at, 2, some (.int))
set_option maxRecDepth 20000 in
theorem mk_X8_at : Mk m_X8_at 2 := ⟨by decide +kernel, ⟨by decide +kernel, by decide +kernel⟩, by decide +kernel, by decide, wG_of (List.mem_append_right _ (List.mem_of_getElem? (i := 535) (by decide +kernel))) rfl, wG_of (List.mem_append_right _ (List.mem_of_getElem? (i := 1) (by decide +kernel))) rfl⟩
set_option maxRecDepth 20000 in
theorem st_X8_at : Cond.static yX8_at ∈ wG := wG_of (List.mem_append_right _ (List.mem_of_getElem? (i := 534) (by decide +kernel))) rfl
abbrev m_X8_average : Mi := (yX8_average, cX8_average, 6, some (.int))
set_option maxRecDepth 20000 in
theorem mk_X8_average : Mk m_X8_average 4 := ⟨by decide +kernel, ⟨by decide +kernel, by decide +kernel⟩, by decide +kernel, by decide, wG_of (List.mem_append_right _ (List.mem_of_getElem? (i := 863) (by decide +kernel))) rfl, wG_of (List.mem_append_right _ (List.mem_of_getElem? (i := 1) (by decide +kernel))) rfl⟩
set_option maxRecDepth 20000 in
theorem im_X8_average : Cond.instanceMethod yX8_average ∈ wG := wG_of (List.mem_append_right _ (List.mem_of_getElem? (i := 861) (by decide +kernel))) rfl
set_option maxRecDepth 20000 in
theorem se_X8_average : Cond.selects RX8 yX8_average yX8_average ∈ wG := wG_of (List.mem_append_right _ (List.mem_of_getElem? (i := 862) (by decide +kernel))) rfl
abbrev m_X8_bank : Mi := (yX8_bank, cX8_bank, 8, some (.int))
set_option maxRecDepth 20000 in
theorem mk_X8_bank : Mk m_X8_bank 4 := ⟨by decide +kernel, ⟨by decide +kernel, by decide +kernel⟩, by decide +kernel, by decide, wG_of (List.mem_append_right _ (List.mem_of_getElem? (i := 689) (by decide +kernel))) rfl, wG_of (List.mem_append_right _ (List.mem_of_getElem? (i := 1) (by decide +kernel))) rfl⟩
set_option maxRecDepth 20000 in
theorem im_X8_bank : Cond.instanceMethod yX8_bank ∈ wG := wG_of (List.mem_append_right _ (List.mem_of_getElem? (i := 687) (by decide +kernel))) rfl
set_option maxRecDepth 20000 in
theorem se_X8_bank : Cond.selects RX8 yX8_bank yX8_bank ∈ wG := wG_of (List.mem_append_right _ (List.mem_of_getElem? (i := 688) (by decide +kernel))) rfl
abbrev m_X8_bestTests : Mi := (yX8_bestTests, cX8_bestTests, 9, some (.int))
set_option maxRecDepth 20000 in
theorem mk_X8_bestTests : Mk m_X8_bestTests 1 := ⟨by decide +kernel, ⟨by decide +kernel, by decide +kernel⟩, by decide +kernel, by decide, wG_of (List.mem_append_right _ (List.mem_of_getElem? (i := 976) (by decide +kernel))) rfl, wG_of (List.mem_append_right _ (List.mem_of_getElem? (i := 1) (by decide +kernel))) rfl⟩
set_option maxRecDepth 20000 in
theorem im_X8_bestTests : Cond.instanceMethod yX8_bestTests ∈ wG := wG_of (List.mem_append_right _ (List.mem_of_getElem? (i := 975) (by decide +kernel))) rfl
set_option maxRecDepth 20000 in
theorem se_X8_bestTests : Cond.selects RX8 yX8_bestTests yX8_bestTests ∈ wG := wG_of (List.mem_append_left _ (List.mem_of_getElem? (i := 46) (by decide +kernel))) rfl
abbrev m_X8_chain : Mi := (yX8_chain, cX8_chain, 5, some (.int))
set_option maxRecDepth 20000 in
theorem mk_X8_chain : Mk m_X8_chain 4 := ⟨by decide +kernel, ⟨by decide +kernel, by decide +kernel⟩, by decide +kernel, by decide, wG_of (List.mem_append_right _ (List.mem_of_getElem? (i := 898) (by decide +kernel))) rfl, wG_of (List.mem_append_right _ (List.mem_of_getElem? (i := 1) (by decide +kernel))) rfl⟩
set_option maxRecDepth 20000 in
theorem im_X8_chain : Cond.instanceMethod yX8_chain ∈ wG := wG_of (List.mem_append_right _ (List.mem_of_getElem? (i := 896) (by decide +kernel))) rfl
set_option maxRecDepth 20000 in
theorem se_X8_chain : Cond.selects RX8 yX8_chain yX8_chain ∈ wG := wG_of (List.mem_append_right _ (List.mem_of_getElem? (i := 897) (by decide +kernel))) rfl
abbrev m_X8_claim : Mi := (yX8_claim, cX8_claim, 3, some (.int))
set_option maxRecDepth 20000 in
theorem mk_X8_claim : Mk m_X8_claim 2 := ⟨by decide +kernel, ⟨by decide +kernel, by decide +kernel⟩, by decide +kernel, by decide, wG_of (List.mem_append_right _ (List.mem_of_getElem? (i := 706) (by decide +kernel))) rfl, wG_of (List.mem_append_right _ (List.mem_of_getElem? (i := 1) (by decide +kernel))) rfl⟩
set_option maxRecDepth 20000 in
theorem im_X8_claim : Cond.instanceMethod yX8_claim ∈ wG := wG_of (List.mem_append_right _ (List.mem_of_getElem? (i := 704) (by decide +kernel))) rfl
set_option maxRecDepth 20000 in
theorem se_X8_claim : Cond.selects RX8 yX8_claim yX8_claim ∈ wG := wG_of (List.mem_append_right _ (List.mem_of_getElem? (i := 705) (by decide +kernel))) rfl
abbrev m_X8_counted : Mi := (yX8_counted, cX8_counted, 6, some (.int))
set_option maxRecDepth 20000 in
theorem mk_X8_counted : Mk m_X8_counted 5 := ⟨by decide +kernel, ⟨by decide +kernel, by decide +kernel⟩, by decide +kernel, by decide, wG_of (List.mem_append_right _ (List.mem_of_getElem? (i := 816) (by decide +kernel))) rfl, wG_of (List.mem_append_right _ (List.mem_of_getElem? (i := 1) (by decide +kernel))) rfl⟩
set_option maxRecDepth 20000 in
theorem im_X8_counted : Cond.instanceMethod yX8_counted ∈ wG := wG_of (List.mem_append_right _ (List.mem_of_getElem? (i := 814) (by decide +kernel))) rfl
set_option maxRecDepth 20000 in
theorem se_X8_counted : Cond.selects RX8 yX8_counted yX8_counted ∈ wG := wG_of (List.mem_append_right _ (List.mem_of_getElem? (i := 815) (by decide +kernel))) rfl
abbrev m_X8_due : Mi := (yX8_due, cX8_due, 6, some (.long))
set_option maxRecDepth 20000 in
theorem mk_X8_due : Mk m_X8_due 4 := ⟨by decide +kernel, ⟨by decide +kernel, by decide +kernel⟩, by decide +kernel, by decide, wG_of (List.mem_append_right _ (List.mem_of_getElem? (i := 932) (by decide +kernel))) rfl, wG_of (List.mem_append_right _ (List.mem_of_getElem? (i := 1) (by decide +kernel))) rfl⟩
set_option maxRecDepth 20000 in
theorem im_X8_due : Cond.instanceMethod yX8_due ∈ wG := wG_of (List.mem_append_right _ (List.mem_of_getElem? (i := 930) (by decide +kernel))) rfl
set_option maxRecDepth 20000 in
theorem se_X8_due : Cond.selects RX8 yX8_due yX8_due ∈ wG := wG_of (List.mem_append_right _ (List.mem_of_getElem? (i := 931) (by decide +kernel))) rfl
abbrev m_X8_empty : Mi := (yX8_empty, cX8_empty, 6, some (.int))
set_option maxRecDepth 20000 in
theorem mk_X8_empty : Mk m_X8_empty 5 := ⟨by decide +kernel, ⟨by decide +kernel, by decide +kernel⟩, by decide +kernel, by decide, wG_of (List.mem_append_right _ (List.mem_of_getElem? (i := 855) (by decide +kernel))) rfl, wG_of (List.mem_append_right _ (List.mem_of_getElem? (i := 1) (by decide +kernel))) rfl⟩
set_option maxRecDepth 20000 in
theorem im_X8_empty : Cond.instanceMethod yX8_empty ∈ wG := wG_of (List.mem_append_right _ (List.mem_of_getElem? (i := 853) (by decide +kernel))) rfl
set_option maxRecDepth 20000 in
theorem se_X8_empty : Cond.selects RX8 yX8_empty yX8_empty ∈ wG := wG_of (List.mem_append_right _ (List.mem_of_getElem? (i := 854) (by decide +kernel))) rfl
abbrev m_X8_end : Mi := (yX8_end, cX8_end, 2, some (.int))
set_option maxRecDepth 20000 in
theorem mk_X8_end : Mk m_X8_end 1 := ⟨by decide +kernel, ⟨by decide +kernel, by decide +kernel⟩, by decide +kernel, by decide, wG_of (List.mem_append_right _ (List.mem_of_getElem? (i := 281) (by decide +kernel))) rfl, wG_of (List.mem_append_right _ (List.mem_of_getElem? (i := 1) (by decide +kernel))) rfl⟩
set_option maxRecDepth 20000 in
theorem im_X8_end : Cond.instanceMethod yX8_end ∈ wG := wG_of (List.mem_append_right _ (List.mem_of_getElem? (i := 279) (by decide +kernel))) rfl
set_option maxRecDepth 20000 in
theorem se_X8_end : Cond.selects RX8 yX8_end yX8_end ∈ wG := wG_of (List.mem_append_right _ (List.mem_of_getElem? (i := 280) (by decide +kernel))) rfl
abbrev m_X8_factAt : Mi := (yX8_factAt, cX8_factAt, 2, some (.object "RestPay$Fact"))
set_option maxRecDepth 20000 in
theorem mk_X8_factAt : Mk m_X8_factAt 1 := ⟨by decide +kernel, ⟨by decide +kernel, by decide +kernel⟩, by decide +kernel, by decide, wG_of (List.mem_append_right _ (List.mem_of_getElem? (i := 714) (by decide +kernel))) rfl, wG_of (List.mem_append_right _ (List.mem_of_getElem? (i := 1) (by decide +kernel))) rfl⟩
set_option maxRecDepth 20000 in
theorem im_X8_factAt : Cond.instanceMethod yX8_factAt ∈ wG := wG_of (List.mem_append_right _ (List.mem_of_getElem? (i := 713) (by decide +kernel))) rfl
set_option maxRecDepth 20000 in
theorem se_X8_factAt : Cond.selects RX8 yX8_factAt yX8_factAt ∈ wG := wG_of (List.mem_append_left _ (List.mem_of_getElem? (i := 21) (by decide +kernel))) rfl
abbrev m_X8_factOf : Mi := (yX8_factOf, cX8_factOf, 4, some (.object "RestPay$Fact"))
set_option maxRecDepth 20000 in
theorem mk_X8_factOf : Mk m_X8_factOf 2 := ⟨by decide +kernel, ⟨by decide +kernel, by decide +kernel⟩, by decide +kernel, by decide, wG_of (List.mem_append_right _ (List.mem_of_getElem? (i := 867) (by decide +kernel))) rfl, wG_of (List.mem_append_right _ (List.mem_of_getElem? (i := 1) (by decide +kernel))) rfl⟩
set_option maxRecDepth 20000 in
theorem im_X8_factOf : Cond.instanceMethod yX8_factOf ∈ wG := wG_of (List.mem_append_right _ (List.mem_of_getElem? (i := 866) (by decide +kernel))) rfl
set_option maxRecDepth 20000 in
theorem se_X8_factOf : Cond.selects RX8 yX8_factOf yX8_factOf ∈ wG := wG_of (List.mem_append_left _ (List.mem_of_getElem? (i := 40) (by decide +kernel))) rfl
abbrev m_X8_fault : Mi := (yX8_fault, cX8_fault, 2, some (.int))
set_option maxRecDepth 20000 in
theorem mk_X8_fault : Mk m_X8_fault 1 := ⟨by decide +kernel, ⟨by decide +kernel, by decide +kernel⟩, by decide +kernel, by decide, wG_of (List.mem_append_right _ (List.mem_of_getElem? (i := 541) (by decide +kernel))) rfl, wG_of (List.mem_append_right _ (List.mem_of_getElem? (i := 1) (by decide +kernel))) rfl⟩
set_option maxRecDepth 20000 in
theorem im_X8_fault : Cond.instanceMethod yX8_fault ∈ wG := wG_of (List.mem_append_right _ (List.mem_of_getElem? (i := 539) (by decide +kernel))) rfl
set_option maxRecDepth 20000 in
theorem se_X8_fault : Cond.selects RX8 yX8_fault yX8_fault ∈ wG := wG_of (List.mem_append_right _ (List.mem_of_getElem? (i := 540) (by decide +kernel))) rfl
abbrev m_X8_feed : Mi := (yX8_feed, cX8_feed, 6, some (.int))
set_option maxRecDepth 20000 in
theorem mk_X8_feed : Mk m_X8_feed 5 := ⟨by decide +kernel, ⟨by decide +kernel, by decide +kernel⟩, by decide +kernel, by decide, wG_of (List.mem_append_right _ (List.mem_of_getElem? (i := 273) (by decide +kernel))) rfl, wG_of (List.mem_append_right _ (List.mem_of_getElem? (i := 1) (by decide +kernel))) rfl⟩
set_option maxRecDepth 20000 in
theorem im_X8_feed : Cond.instanceMethod yX8_feed ∈ wG := wG_of (List.mem_append_right _ (List.mem_of_getElem? (i := 271) (by decide +kernel))) rfl
set_option maxRecDepth 20000 in
theorem se_X8_feed : Cond.selects RX8 yX8_feed yX8_feed ∈ wG := wG_of (List.mem_append_right _ (List.mem_of_getElem? (i := 272) (by decide +kernel))) rfl
abbrev m_X8_holiday : Mi := (yX8_holiday, cX8_holiday, 6, some (.int))
set_option maxRecDepth 20000 in
theorem mk_X8_holiday : Mk m_X8_holiday 4 := ⟨by decide +kernel, ⟨by decide +kernel, by decide +kernel⟩, by decide +kernel, by decide, wG_of (List.mem_append_right _ (List.mem_of_getElem? (i := 694) (by decide +kernel))) rfl, wG_of (List.mem_append_right _ (List.mem_of_getElem? (i := 1) (by decide +kernel))) rfl⟩
set_option maxRecDepth 20000 in
theorem im_X8_holiday : Cond.instanceMethod yX8_holiday ∈ wG := wG_of (List.mem_append_right _ (List.mem_of_getElem? (i := 692) (by decide +kernel))) rfl
set_option maxRecDepth 20000 in
theorem se_X8_holiday : Cond.selects RX8 yX8_holiday yX8_holiday ∈ wG := wG_of (List.mem_append_right _ (List.mem_of_getElem? (i := 693) (by decide +kernel))) rfl
abbrev m_X8_init : Mi := (yX8_init, cX8_init, 3, none)
set_option maxRecDepth 20000 in
theorem mk_X8_init : Mk m_X8_init 0 := ⟨by decide +kernel, ⟨by decide +kernel, by decide +kernel⟩, by decide +kernel, by decide, wG_of (List.mem_append_right _ (List.mem_of_getElem? (i := 23) (by decide +kernel))) rfl, wG_of (List.mem_append_right _ (List.mem_of_getElem? (i := 1) (by decide +kernel))) rfl⟩
set_option maxRecDepth 20000 in
theorem im_X8_init : Cond.instanceMethod yX8_init ∈ wG := wG_of (List.mem_append_right _ (List.mem_of_getElem? (i := 22) (by decide +kernel))) rfl
abbrev m_X8_isDay : Mi := (yX8_isDay, cX8_isDay, 1, some (.boolean))
set_option maxRecDepth 20000 in
theorem mk_X8_isDay : Mk m_X8_isDay 1 := ⟨by decide +kernel, ⟨by decide +kernel, by decide +kernel⟩, by decide +kernel, by decide, wG_of (List.mem_append_right _ (List.mem_of_getElem? (i := 697) (by decide +kernel))) rfl, wG_of (List.mem_append_right _ (List.mem_of_getElem? (i := 1) (by decide +kernel))) rfl⟩
set_option maxRecDepth 20000 in
theorem st_X8_isDay : Cond.static yX8_isDay ∈ wG := wG_of (List.mem_append_right _ (List.mem_of_getElem? (i := 696) (by decide +kernel))) rfl
abbrev m_X8_isWeek : Mi := (yX8_isWeek, cX8_isWeek, 1, some (.boolean))
set_option maxRecDepth 20000 in
theorem mk_X8_isWeek : Mk m_X8_isWeek 1 := ⟨by decide +kernel, ⟨by decide +kernel, by decide +kernel⟩, by decide +kernel, by decide, wG_of (List.mem_append_right _ (List.mem_of_getElem? (i := 609) (by decide +kernel))) rfl, wG_of (List.mem_append_right _ (List.mem_of_getElem? (i := 1) (by decide +kernel))) rfl⟩
set_option maxRecDepth 20000 in
theorem st_X8_isWeek : Cond.static yX8_isWeek ∈ wG := wG_of (List.mem_append_right _ (List.mem_of_getElem? (i := 608) (by decide +kernel))) rfl
abbrev m_X8_later : Mi := (yX8_later, cX8_later, 2, some (.int))
set_option maxRecDepth 20000 in
theorem mk_X8_later : Mk m_X8_later 1 := ⟨by decide +kernel, ⟨by decide +kernel, by decide +kernel⟩, by decide +kernel, by decide, wG_of (List.mem_append_right _ (List.mem_of_getElem? (i := 718) (by decide +kernel))) rfl, wG_of (List.mem_append_right _ (List.mem_of_getElem? (i := 1) (by decide +kernel))) rfl⟩
set_option maxRecDepth 20000 in
theorem im_X8_later : Cond.instanceMethod yX8_later ∈ wG := wG_of (List.mem_append_right _ (List.mem_of_getElem? (i := 716) (by decide +kernel))) rfl
set_option maxRecDepth 20000 in
theorem se_X8_later : Cond.selects RX8 yX8_later yX8_later ∈ wG := wG_of (List.mem_append_right _ (List.mem_of_getElem? (i := 717) (by decide +kernel))) rfl
abbrev m_X8_link : Mi := (yX8_link, cX8_link, 7, some (.int))
set_option maxRecDepth 20000 in
theorem mk_X8_link : Mk m_X8_link 5 := ⟨by decide +kernel, ⟨by decide +kernel, by decide +kernel⟩, by decide +kernel, by decide, wG_of (List.mem_append_right _ (List.mem_of_getElem? (i := 927) (by decide +kernel))) rfl, wG_of (List.mem_append_right _ (List.mem_of_getElem? (i := 1) (by decide +kernel))) rfl⟩
set_option maxRecDepth 20000 in
theorem im_X8_link : Cond.instanceMethod yX8_link ∈ wG := wG_of (List.mem_append_right _ (List.mem_of_getElem? (i := 925) (by decide +kernel))) rfl
set_option maxRecDepth 20000 in
theorem se_X8_link : Cond.selects RX8 yX8_link yX8_link ∈ wG := wG_of (List.mem_append_right _ (List.mem_of_getElem? (i := 926) (by decide +kernel))) rfl
abbrev m_X8_lost : Mi := (yX8_lost, cX8_lost, 3, some (.int))
set_option maxRecDepth 20000 in
theorem mk_X8_lost : Mk m_X8_lost 2 := ⟨by decide +kernel, ⟨by decide +kernel, by decide +kernel⟩, by decide +kernel, by decide, wG_of (List.mem_append_right _ (List.mem_of_getElem? (i := 685) (by decide +kernel))) rfl, wG_of (List.mem_append_right _ (List.mem_of_getElem? (i := 1) (by decide +kernel))) rfl⟩
set_option maxRecDepth 20000 in
theorem im_X8_lost : Cond.instanceMethod yX8_lost ∈ wG := wG_of (List.mem_append_right _ (List.mem_of_getElem? (i := 683) (by decide +kernel))) rfl
set_option maxRecDepth 20000 in
theorem se_X8_lost : Cond.selects RX8 yX8_lost yX8_lost ∈ wG := wG_of (List.mem_append_right _ (List.mem_of_getElem? (i := 684) (by decide +kernel))) rfl
abbrev m_X8_marks : Mi := (yX8_marks, cX8_marks, 5, some (.int))
set_option maxRecDepth 20000 in
theorem mk_X8_marks : Mk m_X8_marks 4 := ⟨by decide +kernel, ⟨by decide +kernel, by decide +kernel⟩, by decide +kernel, by decide, wG_of (List.mem_append_right _ (List.mem_of_getElem? (i := 968) (by decide +kernel))) rfl, wG_of (List.mem_append_right _ (List.mem_of_getElem? (i := 1) (by decide +kernel))) rfl⟩
set_option maxRecDepth 20000 in
theorem im_X8_marks : Cond.instanceMethod yX8_marks ∈ wG := wG_of (List.mem_append_right _ (List.mem_of_getElem? (i := 966) (by decide +kernel))) rfl
set_option maxRecDepth 20000 in
theorem se_X8_marks : Cond.selects RX8 yX8_marks yX8_marks ∈ wG := wG_of (List.mem_append_right _ (List.mem_of_getElem? (i := 967) (by decide +kernel))) rfl
abbrev m_X8_marksOfSet : Mi := (yX8_marksOfSet, cX8_marksOfSet, 4, some (.int))
set_option maxRecDepth 20000 in
theorem mk_X8_marksOfSet : Mk m_X8_marksOfSet 1 := ⟨by decide +kernel, ⟨by decide +kernel, by decide +kernel⟩, by decide +kernel, by decide, wG_of (List.mem_append_right _ (List.mem_of_getElem? (i := 985) (by decide +kernel))) rfl, wG_of (List.mem_append_right _ (List.mem_of_getElem? (i := 1) (by decide +kernel))) rfl⟩
set_option maxRecDepth 20000 in
theorem im_X8_marksOfSet : Cond.instanceMethod yX8_marksOfSet ∈ wG := wG_of (List.mem_append_right _ (List.mem_of_getElem? (i := 984) (by decide +kernel))) rfl
set_option maxRecDepth 20000 in
theorem se_X8_marksOfSet : Cond.selects RX8 yX8_marksOfSet yX8_marksOfSet ∈ wG := wG_of (List.mem_append_left _ (List.mem_of_getElem? (i := 48) (by decide +kernel))) rfl
abbrev m_X8_openChain : Mi := (yX8_openChain, cX8_openChain, 6, some (.boolean))
set_option maxRecDepth 20000 in
theorem mk_X8_openChain : Mk m_X8_openChain 4 := ⟨by decide +kernel, ⟨by decide +kernel, by decide +kernel⟩, by decide +kernel, by decide, wG_of (List.mem_append_right _ (List.mem_of_getElem? (i := 902) (by decide +kernel))) rfl, wG_of (List.mem_append_right _ (List.mem_of_getElem? (i := 1) (by decide +kernel))) rfl⟩
set_option maxRecDepth 20000 in
theorem im_X8_openChain : Cond.instanceMethod yX8_openChain ∈ wG := wG_of (List.mem_append_right _ (List.mem_of_getElem? (i := 901) (by decide +kernel))) rfl
set_option maxRecDepth 20000 in
theorem se_X8_openChain : Cond.selects RX8 yX8_openChain yX8_openChain ∈ wG := wG_of (List.mem_append_left _ (List.mem_of_getElem? (i := 41) (by decide +kernel))) rfl
abbrev m_X8_openSheet : Mi := (yX8_openSheet, cX8_openSheet, 7, some (.boolean))
set_option maxRecDepth 20000 in
theorem mk_X8_openSheet : Mk m_X8_openSheet 4 := ⟨by decide +kernel, ⟨by decide +kernel, by decide +kernel⟩, by decide +kernel, by decide, wG_of (List.mem_append_right _ (List.mem_of_getElem? (i := 820) (by decide +kernel))) rfl, wG_of (List.mem_append_right _ (List.mem_of_getElem? (i := 1) (by decide +kernel))) rfl⟩
set_option maxRecDepth 20000 in
theorem im_X8_openSheet : Cond.instanceMethod yX8_openSheet ∈ wG := wG_of (List.mem_append_right _ (List.mem_of_getElem? (i := 819) (by decide +kernel))) rfl
set_option maxRecDepth 20000 in
theorem se_X8_openSheet : Cond.selects RX8 yX8_openSheet yX8_openSheet ∈ wG := wG_of (List.mem_append_left _ (List.mem_of_getElem? (i := 35) (by decide +kernel))) rfl
abbrev m_X8_owed : Mi := (yX8_owed, cX8_owed, 6, some (.int))
set_option maxRecDepth 20000 in
theorem mk_X8_owed : Mk m_X8_owed 4 := ⟨by decide +kernel, ⟨by decide +kernel, by decide +kernel⟩, by decide +kernel, by decide, wG_of (List.mem_append_right _ (List.mem_of_getElem? (i := 887) (by decide +kernel))) rfl, wG_of (List.mem_append_right _ (List.mem_of_getElem? (i := 1) (by decide +kernel))) rfl⟩
set_option maxRecDepth 20000 in
theorem im_X8_owed : Cond.instanceMethod yX8_owed ∈ wG := wG_of (List.mem_append_right _ (List.mem_of_getElem? (i := 885) (by decide +kernel))) rfl
set_option maxRecDepth 20000 in
theorem se_X8_owed : Cond.selects RX8 yX8_owed yX8_owed ∈ wG := wG_of (List.mem_append_right _ (List.mem_of_getElem? (i := 886) (by decide +kernel))) rfl
abbrev m_X8_pay : Mi := (yX8_pay, cX8_pay, 6, some (.int))
set_option maxRecDepth 20000 in
theorem mk_X8_pay : Mk m_X8_pay 4 := ⟨by decide +kernel, ⟨by decide +kernel, by decide +kernel⟩, by decide +kernel, by decide, wG_of (List.mem_append_right _ (List.mem_of_getElem? (i := 606) (by decide +kernel))) rfl, wG_of (List.mem_append_right _ (List.mem_of_getElem? (i := 1) (by decide +kernel))) rfl⟩
set_option maxRecDepth 20000 in
theorem im_X8_pay : Cond.instanceMethod yX8_pay ∈ wG := wG_of (List.mem_append_right _ (List.mem_of_getElem? (i := 604) (by decide +kernel))) rfl
set_option maxRecDepth 20000 in
theorem se_X8_pay : Cond.selects RX8 yX8_pay yX8_pay ∈ wG := wG_of (List.mem_append_right _ (List.mem_of_getElem? (i := 605) (by decide +kernel))) rfl
abbrev m_X8_payout : Mi := (yX8_payout, cX8_payout, 5, some (.long))
set_option maxRecDepth 20000 in
theorem mk_X8_payout : Mk m_X8_payout 4 := ⟨by decide +kernel, ⟨by decide +kernel, by decide +kernel⟩, by decide +kernel, by decide, wG_of (List.mem_append_right _ (List.mem_of_getElem? (i := 946) (by decide +kernel))) rfl, wG_of (List.mem_append_right _ (List.mem_of_getElem? (i := 1) (by decide +kernel))) rfl⟩
set_option maxRecDepth 20000 in
theorem im_X8_payout : Cond.instanceMethod yX8_payout ∈ wG := wG_of (List.mem_append_right _ (List.mem_of_getElem? (i := 944) (by decide +kernel))) rfl
set_option maxRecDepth 20000 in
theorem se_X8_payout : Cond.selects RX8 yX8_payout yX8_payout ∈ wG := wG_of (List.mem_append_right _ (List.mem_of_getElem? (i := 945) (by decide +kernel))) rfl
abbrev m_X8_quarrel : Mi := (yX8_quarrel, cX8_quarrel, 4, some (.int))
set_option maxRecDepth 20000 in
theorem mk_X8_quarrel : Mk m_X8_quarrel 2 := ⟨by decide +kernel, ⟨by decide +kernel, by decide +kernel⟩, by decide +kernel, by decide, wG_of (List.mem_append_right _ (List.mem_of_getElem? (i := 812) (by decide +kernel))) rfl, wG_of (List.mem_append_right _ (List.mem_of_getElem? (i := 1) (by decide +kernel))) rfl⟩
set_option maxRecDepth 20000 in
theorem im_X8_quarrel : Cond.instanceMethod yX8_quarrel ∈ wG := wG_of (List.mem_append_right _ (List.mem_of_getElem? (i := 810) (by decide +kernel))) rfl
set_option maxRecDepth 20000 in
theorem se_X8_quarrel : Cond.selects RX8 yX8_quarrel yX8_quarrel ∈ wG := wG_of (List.mem_append_right _ (List.mem_of_getElem? (i := 811) (by decide +kernel))) rfl
abbrev m_X8_quarrels : Mi := (yX8_quarrels, cX8_quarrels, 7, some (.long))
set_option maxRecDepth 20000 in
theorem mk_X8_quarrels : Mk m_X8_quarrels 4 := ⟨by decide +kernel, ⟨by decide +kernel, by decide +kernel⟩, by decide +kernel, by decide, wG_of (List.mem_append_right _ (List.mem_of_getElem? (i := 959) (by decide +kernel))) rfl, wG_of (List.mem_append_right _ (List.mem_of_getElem? (i := 1) (by decide +kernel))) rfl⟩
set_option maxRecDepth 20000 in
theorem im_X8_quarrels : Cond.instanceMethod yX8_quarrels ∈ wG := wG_of (List.mem_append_right _ (List.mem_of_getElem? (i := 957) (by decide +kernel))) rfl
set_option maxRecDepth 20000 in
theorem se_X8_quarrels : Cond.selects RX8 yX8_quarrels yX8_quarrels ∈ wG := wG_of (List.mem_append_right _ (List.mem_of_getElem? (i := 958) (by decide +kernel))) rfl
abbrev m_X8_settle : Mi := (yX8_settle, cX8_settle, 5, some (.int))
set_option maxRecDepth 20000 in
theorem mk_X8_settle : Mk m_X8_settle 3 := ⟨by decide +kernel, ⟨by decide +kernel, by decide +kernel⟩, by decide +kernel, by decide, wG_of (List.mem_append_right _ (List.mem_of_getElem? (i := 702) (by decide +kernel))) rfl, wG_of (List.mem_append_right _ (List.mem_of_getElem? (i := 1) (by decide +kernel))) rfl⟩
set_option maxRecDepth 20000 in
theorem im_X8_settle : Cond.instanceMethod yX8_settle ∈ wG := wG_of (List.mem_append_right _ (List.mem_of_getElem? (i := 700) (by decide +kernel))) rfl
set_option maxRecDepth 20000 in
theorem se_X8_settle : Cond.selects RX8 yX8_settle yX8_settle ∈ wG := wG_of (List.mem_append_right _ (List.mem_of_getElem? (i := 701) (by decide +kernel))) rfl
abbrev m_X8_settles : Mi := (yX8_settles, cX8_settles, 5, some (.long))
set_option maxRecDepth 20000 in
theorem mk_X8_settles : Mk m_X8_settles 4 := ⟨by decide +kernel, ⟨by decide +kernel, by decide +kernel⟩, by decide +kernel, by decide, wG_of (List.mem_append_right _ (List.mem_of_getElem? (i := 989) (by decide +kernel))) rfl, wG_of (List.mem_append_right _ (List.mem_of_getElem? (i := 1) (by decide +kernel))) rfl⟩
set_option maxRecDepth 20000 in
theorem im_X8_settles : Cond.instanceMethod yX8_settles ∈ wG := wG_of (List.mem_append_right _ (List.mem_of_getElem? (i := 987) (by decide +kernel))) rfl
set_option maxRecDepth 20000 in
theorem se_X8_settles : Cond.selects RX8 yX8_settles yX8_settles ∈ wG := wG_of (List.mem_append_right _ (List.mem_of_getElem? (i := 988) (by decide +kernel))) rfl
abbrev m_X8_shelfAt : Mi := (yX8_shelfAt, cX8_shelfAt, 2, some (.object "RestPay$Act"))
set_option maxRecDepth 20000 in
theorem mk_X8_shelfAt : Mk m_X8_shelfAt 1 := ⟨by decide +kernel, ⟨by decide +kernel, by decide +kernel⟩, by decide +kernel, by decide, wG_of (List.mem_append_right _ (List.mem_of_getElem? (i := 824) (by decide +kernel))) rfl, wG_of (List.mem_append_right _ (List.mem_of_getElem? (i := 1) (by decide +kernel))) rfl⟩
set_option maxRecDepth 20000 in
theorem im_X8_shelfAt : Cond.instanceMethod yX8_shelfAt ∈ wG := wG_of (List.mem_append_right _ (List.mem_of_getElem? (i := 823) (by decide +kernel))) rfl
set_option maxRecDepth 20000 in
theorem se_X8_shelfAt : Cond.selects RX8 yX8_shelfAt yX8_shelfAt ∈ wG := wG_of (List.mem_append_left _ (List.mem_of_getElem? (i := 36) (by decide +kernel))) rfl
abbrev m_X8_span : Mi := (yX8_span, cX8_span, 6, some (.int))
set_option maxRecDepth 20000 in
theorem mk_X8_span : Mk m_X8_span 4 := ⟨by decide +kernel, ⟨by decide +kernel, by decide +kernel⟩, by decide +kernel, by decide, wG_of (List.mem_append_right _ (List.mem_of_getElem? (i := 723) (by decide +kernel))) rfl, wG_of (List.mem_append_right _ (List.mem_of_getElem? (i := 1) (by decide +kernel))) rfl⟩
set_option maxRecDepth 20000 in
theorem im_X8_span : Cond.instanceMethod yX8_span ∈ wG := wG_of (List.mem_append_right _ (List.mem_of_getElem? (i := 721) (by decide +kernel))) rfl
set_option maxRecDepth 20000 in
theorem se_X8_span : Cond.selects RX8 yX8_span yX8_span ∈ wG := wG_of (List.mem_append_right _ (List.mem_of_getElem? (i := 722) (by decide +kernel))) rfl
abbrev m_X8_tell : Mi := (yX8_tell, cX8_tell, 8, some (.int))
set_option maxRecDepth 20000 in
theorem mk_X8_tell : Mk m_X8_tell 5 := ⟨by decide +kernel, ⟨by decide +kernel, by decide +kernel⟩, by decide +kernel, by decide, wG_of (List.mem_append_right _ (List.mem_of_getElem? (i := 613) (by decide +kernel))) rfl, wG_of (List.mem_append_right _ (List.mem_of_getElem? (i := 1) (by decide +kernel))) rfl⟩
set_option maxRecDepth 20000 in
theorem im_X8_tell : Cond.instanceMethod yX8_tell ∈ wG := wG_of (List.mem_append_right _ (List.mem_of_getElem? (i := 612) (by decide +kernel))) rfl
set_option maxRecDepth 20000 in
theorem se_X8_tell : Cond.selects RX8 yX8_tell yX8_tell ∈ wG := wG_of (List.mem_append_left _ (List.mem_of_getElem? (i := 19) (by decide +kernel))) rfl
abbrev m_X8_tests : Mi := (yX8_tests, cX8_tests, 5, some (.int))
set_option maxRecDepth 20000 in
theorem mk_X8_tests : Mk m_X8_tests 4 := ⟨by decide +kernel, ⟨by decide +kernel, by decide +kernel⟩, by decide +kernel, by decide, wG_of (List.mem_append_right _ (List.mem_of_getElem? (i := 972) (by decide +kernel))) rfl, wG_of (List.mem_append_right _ (List.mem_of_getElem? (i := 1) (by decide +kernel))) rfl⟩
set_option maxRecDepth 20000 in
theorem im_X8_tests : Cond.instanceMethod yX8_tests ∈ wG := wG_of (List.mem_append_right _ (List.mem_of_getElem? (i := 970) (by decide +kernel))) rfl
set_option maxRecDepth 20000 in
theorem se_X8_tests : Cond.selects RX8 yX8_tests yX8_tests ∈ wG := wG_of (List.mem_append_right _ (List.mem_of_getElem? (i := 971) (by decide +kernel))) rfl
abbrev m_X8_untell : Mi := (yX8_untell, cX8_untell, 4, some (.boolean))
set_option maxRecDepth 20000 in
theorem mk_X8_untell : Mk m_X8_untell 1 := ⟨by decide +kernel, ⟨by decide +kernel, by decide +kernel⟩, by decide +kernel, by decide, wG_of (List.mem_append_right _ (List.mem_of_getElem? (i := 710) (by decide +kernel))) rfl, wG_of (List.mem_append_right _ (List.mem_of_getElem? (i := 1) (by decide +kernel))) rfl⟩
set_option maxRecDepth 20000 in
theorem im_X8_untell : Cond.instanceMethod yX8_untell ∈ wG := wG_of (List.mem_append_right _ (List.mem_of_getElem? (i := 708) (by decide +kernel))) rfl
set_option maxRecDepth 20000 in
theorem se_X8_untell : Cond.selects RX8 yX8_untell yX8_untell ∈ wG := wG_of (List.mem_append_right _ (List.mem_of_getElem? (i := 709) (by decide +kernel))) rfl
abbrev m_X8_weeks : Mi := (yX8_weeks, cX8_weeks, 6, some (.int))
set_option maxRecDepth 20000 in
theorem mk_X8_weeks : Mk m_X8_weeks 4 := ⟨by decide +kernel, ⟨by decide +kernel, by decide +kernel⟩, by decide +kernel, by decide, wG_of (List.mem_append_right _ (List.mem_of_getElem? (i := 883) (by decide +kernel))) rfl, wG_of (List.mem_append_right _ (List.mem_of_getElem? (i := 1) (by decide +kernel))) rfl⟩
set_option maxRecDepth 20000 in
theorem im_X8_weeks : Cond.instanceMethod yX8_weeks ∈ wG := wG_of (List.mem_append_right _ (List.mem_of_getElem? (i := 881) (by decide +kernel))) rfl
set_option maxRecDepth 20000 in
theorem se_X8_weeks : Cond.selects RX8 yX8_weeks yX8_weeks ∈ wG := wG_of (List.mem_append_right _ (List.mem_of_getElem? (i := 882) (by decide +kernel))) rfl
abbrev m_X8_weighAll : Mi := (yX8_weighAll, cX8_weighAll, 7, some (.long))
set_option maxRecDepth 20000 in
theorem mk_X8_weighAll : Mk m_X8_weighAll 3 := ⟨by decide +kernel, ⟨by decide +kernel, by decide +kernel⟩, by decide +kernel, by decide, wG_of (List.mem_append_right _ (List.mem_of_getElem? (i := 964) (by decide +kernel))) rfl, wG_of (List.mem_append_right _ (List.mem_of_getElem? (i := 1) (by decide +kernel))) rfl⟩
set_option maxRecDepth 20000 in
theorem im_X8_weighAll : Cond.instanceMethod yX8_weighAll ∈ wG := wG_of (List.mem_append_right _ (List.mem_of_getElem? (i := 963) (by decide +kernel))) rfl
set_option maxRecDepth 20000 in
theorem se_X8_weighAll : Cond.selects RX8 yX8_weighAll yX8_weighAll ∈ wG := wG_of (List.mem_append_left _ (List.mem_of_getElem? (i := 45) (by decide +kernel))) rfl
abbrev m_X8_weighMarkSets : Mi := (yX8_weighMarkSets, cX8_weighMarkSets, 5, none)
set_option maxRecDepth 20000 in
theorem mk_X8_weighMarkSets : Mk m_X8_weighMarkSets 0 := ⟨by decide +kernel, ⟨by decide +kernel, by decide +kernel⟩, by decide +kernel, by decide, wG_of (List.mem_append_right _ (List.mem_of_getElem? (i := 980) (by decide +kernel))) rfl, wG_of (List.mem_append_right _ (List.mem_of_getElem? (i := 1) (by decide +kernel))) rfl⟩
set_option maxRecDepth 20000 in
theorem im_X8_weighMarkSets : Cond.instanceMethod yX8_weighMarkSets ∈ wG := wG_of (List.mem_append_right _ (List.mem_of_getElem? (i := 979) (by decide +kernel))) rfl
set_option maxRecDepth 20000 in
theorem se_X8_weighMarkSets : Cond.selects RX8 yX8_weighMarkSets yX8_weighMarkSets ∈ wG := wG_of (List.mem_append_left _ (List.mem_of_getElem? (i := 47) (by decide +kernel))) rfl
abbrev m_X8_within : Mi := (yX8_within, cX8_within, 3, some (.boolean))
set_option maxRecDepth 20000 in
theorem mk_X8_within : Mk m_X8_within 3 := ⟨by decide +kernel, ⟨by decide +kernel, by decide +kernel⟩, by decide +kernel, by decide, wG_of (List.mem_append_right _ (List.mem_of_getElem? (i := 456) (by decide +kernel))) rfl, wG_of (List.mem_append_right _ (List.mem_of_getElem? (i := 1) (by decide +kernel))) rfl⟩
set_option maxRecDepth 20000 in
theorem st_X8_within : Cond.static yX8_within ∈ wG := wG_of (List.mem_append_right _ (List.mem_of_getElem? (i := 455) (by decide +kernel))) rfl
abbrev m_X8_worker : Mi := (yX8_worker, cX8_worker, 3, some (.int))
set_option maxRecDepth 20000 in
theorem mk_X8_worker : Mk m_X8_worker 2 := ⟨by decide +kernel, ⟨by decide +kernel, by decide +kernel⟩, by decide +kernel, by decide, wG_of (List.mem_append_right _ (List.mem_of_getElem? (i := 545) (by decide +kernel))) rfl, wG_of (List.mem_append_right _ (List.mem_of_getElem? (i := 1) (by decide +kernel))) rfl⟩
set_option maxRecDepth 20000 in
theorem im_X8_worker : Cond.instanceMethod yX8_worker ∈ wG := wG_of (List.mem_append_right _ (List.mem_of_getElem? (i := 543) (by decide +kernel))) rfl
set_option maxRecDepth 20000 in
theorem se_X8_worker : Cond.selects RX8 yX8_worker yX8_worker ∈ wG := wG_of (List.mem_append_right _ (List.mem_of_getElem? (i := 544) (by decide +kernel))) rfl
abbrev m_X8_workerAt : Mi := (yX8_workerAt, cX8_workerAt, 2, some (.object "RestPay$Worker"))
set_option maxRecDepth 20000 in
theorem mk_X8_workerAt : Mk m_X8_workerAt 1 := ⟨by decide +kernel, ⟨by decide +kernel, by decide +kernel⟩, by decide +kernel, by decide, wG_of (List.mem_append_right _ (List.mem_of_getElem? (i := 617) (by decide +kernel))) rfl, wG_of (List.mem_append_right _ (List.mem_of_getElem? (i := 1) (by decide +kernel))) rfl⟩
set_option maxRecDepth 20000 in
theorem im_X8_workerAt : Cond.instanceMethod yX8_workerAt ∈ wG := wG_of (List.mem_append_right _ (List.mem_of_getElem? (i := 616) (by decide +kernel))) rfl
set_option maxRecDepth 20000 in
theorem se_X8_workerAt : Cond.selects RX8 yX8_workerAt yX8_workerAt ∈ wG := wG_of (List.mem_append_left _ (List.mem_of_getElem? (i := 20) (by decide +kernel))) rfl
abbrev m_X9_about : Mi := (yX9_about, cX9_about, 2, some (.int))
set_option maxRecDepth 20000 in
theorem mk_X9_about : Mk m_X9_about 1 := ⟨by decide +kernel, ⟨by decide +kernel, by decide +kernel⟩, by decide +kernel, by decide, wG_of (List.mem_append_right _ (List.mem_of_getElem? (i := 1602) (by decide +kernel))) rfl, wG_of (List.mem_append_right _ (List.mem_of_getElem? (i := 6) (by decide +kernel))) rfl⟩
set_option maxRecDepth 20000 in
theorem im_X9_about : Cond.instanceMethod yX9_about ∈ wG := wG_of (List.mem_append_right _ (List.mem_of_getElem? (i := 1600) (by decide +kernel))) rfl
set_option maxRecDepth 20000 in
theorem se_X9_about : Cond.selects RX9 yX9_about yX9_about ∈ wG := wG_of (List.mem_append_right _ (List.mem_of_getElem? (i := 1601) (by decide +kernel))) rfl
abbrev m_X9_act : Mi := (yX9_act, cX9_act, 3, some (.int))
set_option maxRecDepth 20000 in
theorem mk_X9_act : Mk m_X9_act 1 := ⟨by decide +kernel, ⟨by decide +kernel, by decide +kernel⟩, by decide +kernel, by decide, wG_of (List.mem_append_right _ (List.mem_of_getElem? (i := 1225) (by decide +kernel))) rfl, wG_of (List.mem_append_right _ (List.mem_of_getElem? (i := 6) (by decide +kernel))) rfl⟩
set_option maxRecDepth 20000 in
theorem im_X9_act : Cond.instanceMethod yX9_act ∈ wG := wG_of (List.mem_append_right _ (List.mem_of_getElem? (i := 1223) (by decide +kernel))) rfl
set_option maxRecDepth 20000 in
theorem se_X9_act : Cond.selects RX9 yX9_act yX9_act ∈ wG := wG_of (List.mem_append_right _ (List.mem_of_getElem? (i := 1224) (by decide +kernel))) rfl
abbrev m_X9_allOf : Mi := (yX9_allOf, cX9_allOf, 7, some (.long))
set_option maxRecDepth 20000 in
theorem mk_X9_allOf : Mk m_X9_allOf 3 := ⟨by decide +kernel, ⟨by decide +kernel, by decide +kernel⟩, by decide +kernel, by decide, wG_of (List.mem_append_right _ (List.mem_of_getElem? (i := 1573) (by decide +kernel))) rfl, wG_of (List.mem_append_right _ (List.mem_of_getElem? (i := 6) (by decide +kernel))) rfl⟩
set_option maxRecDepth 20000 in
theorem im_X9_allOf : Cond.instanceMethod yX9_allOf ∈ wG := wG_of (List.mem_append_right _ (List.mem_of_getElem? (i := 1572) (by decide +kernel))) rfl
set_option maxRecDepth 20000 in
theorem se_X9_allOf : Cond.selects RX9 yX9_allOf yX9_allOf ∈ wG := wG_of (List.mem_append_left _ (List.mem_of_getElem? (i := 100) (by decide +kernel))) rfl
abbrev m_X9_average : Mi := (yX9_average, cX9_average, 5, some (.int))
set_option maxRecDepth 20000 in
theorem mk_X9_average : Mk m_X9_average 4 := ⟨by decide +kernel, ⟨by decide +kernel, by decide +kernel⟩, by decide +kernel, by decide, wG_of (List.mem_append_right _ (List.mem_of_getElem? (i := 1502) (by decide +kernel))) rfl, wG_of (List.mem_append_right _ (List.mem_of_getElem? (i := 6) (by decide +kernel))) rfl⟩
set_option maxRecDepth 20000 in
theorem im_X9_average : Cond.instanceMethod yX9_average ∈ wG := wG_of (List.mem_append_right _ (List.mem_of_getElem? (i := 1500) (by decide +kernel))) rfl
set_option maxRecDepth 20000 in
theorem se_X9_average : Cond.selects RX9 yX9_average yX9_average ∈ wG := wG_of (List.mem_append_right _ (List.mem_of_getElem? (i := 1501) (by decide +kernel))) rfl
abbrev m_X9_averageOf : Mi := (yX9_averageOf, cX9_averageOf, 6, none)
set_option maxRecDepth 20000 in
theorem mk_X9_averageOf : Mk m_X9_averageOf 2 := ⟨by decide +kernel, ⟨by decide +kernel, by decide +kernel⟩, by decide +kernel, by decide, wG_of (List.mem_append_right _ (List.mem_of_getElem? (i := 1510) (by decide +kernel))) rfl, wG_of (List.mem_append_right _ (List.mem_of_getElem? (i := 6) (by decide +kernel))) rfl⟩
set_option maxRecDepth 20000 in
theorem im_X9_averageOf : Cond.instanceMethod yX9_averageOf ∈ wG := wG_of (List.mem_append_right _ (List.mem_of_getElem? (i := 1509) (by decide +kernel))) rfl
set_option maxRecDepth 20000 in
theorem se_X9_averageOf : Cond.selects RX9 yX9_averageOf yX9_averageOf ∈ wG := wG_of (List.mem_append_left _ (List.mem_of_getElem? (i := 92) (by decide +kernel))) rfl
abbrev m_X9_bank : Mi := (yX9_bank, cX9_bank, 5, some (.int))
set_option maxRecDepth 20000 in
theorem mk_X9_bank : Mk m_X9_bank 4 := ⟨by decide +kernel, ⟨by decide +kernel, by decide +kernel⟩, by decide +kernel, by decide, wG_of (List.mem_append_right _ (List.mem_of_getElem? (i := 1395) (by decide +kernel))) rfl, wG_of (List.mem_append_right _ (List.mem_of_getElem? (i := 6) (by decide +kernel))) rfl⟩
set_option maxRecDepth 20000 in
theorem im_X9_bank : Cond.instanceMethod yX9_bank ∈ wG := wG_of (List.mem_append_right _ (List.mem_of_getElem? (i := 1393) (by decide +kernel))) rfl
set_option maxRecDepth 20000 in
theorem se_X9_bank : Cond.selects RX9 yX9_bank yX9_bank ∈ wG := wG_of (List.mem_append_right _ (List.mem_of_getElem? (i := 1394) (by decide +kernel))) rfl
abbrev m_X9_behind : Mi := (yX9_behind, cX9_behind, 2, some (.boolean))
set_option maxRecDepth 20000 in
theorem mk_X9_behind : Mk m_X9_behind 0 := ⟨by decide +kernel, ⟨by decide +kernel, by decide +kernel⟩, by decide +kernel, by decide, wG_of (List.mem_append_right _ (List.mem_of_getElem? (i := 1339) (by decide +kernel))) rfl, wG_of (List.mem_append_right _ (List.mem_of_getElem? (i := 6) (by decide +kernel))) rfl⟩
set_option maxRecDepth 20000 in
theorem im_X9_behind : Cond.instanceMethod yX9_behind ∈ wG := wG_of (List.mem_append_right _ (List.mem_of_getElem? (i := 1338) (by decide +kernel))) rfl
set_option maxRecDepth 20000 in
theorem se_X9_behind : Cond.selects RX9 yX9_behind yX9_behind ∈ wG := wG_of (List.mem_append_left _ (List.mem_of_getElem? (i := 69) (by decide +kernel))) rfl
abbrev m_X9_bitsOf : Mi := (yX9_bitsOf, cX9_bitsOf, 3, some (.int))
set_option maxRecDepth 20000 in
theorem mk_X9_bitsOf : Mk m_X9_bitsOf 1 := ⟨by decide +kernel, ⟨by decide +kernel, by decide +kernel⟩, by decide +kernel, by decide, wG_of (List.mem_append_right _ (List.mem_of_getElem? (i := 1437) (by decide +kernel))) rfl, wG_of (List.mem_append_right _ (List.mem_of_getElem? (i := 6) (by decide +kernel))) rfl⟩
set_option maxRecDepth 20000 in
theorem st_X9_bitsOf : Cond.static yX9_bitsOf ∈ wG := wG_of (List.mem_append_right _ (List.mem_of_getElem? (i := 1436) (by decide +kernel))) rfl
abbrev m_X9_canBe : Mi := (yX9_canBe, cX9_canBe, 4, some (.boolean))
set_option maxRecDepth 20000 in
theorem mk_X9_canBe : Mk m_X9_canBe 2 := ⟨by decide +kernel, ⟨by decide +kernel, by decide +kernel⟩, by decide +kernel, by decide, wG_of (List.mem_append_right _ (List.mem_of_getElem? (i := 1594) (by decide +kernel))) rfl, wG_of (List.mem_append_right _ (List.mem_of_getElem? (i := 6) (by decide +kernel))) rfl⟩
set_option maxRecDepth 20000 in
theorem im_X9_canBe : Cond.instanceMethod yX9_canBe ∈ wG := wG_of (List.mem_append_right _ (List.mem_of_getElem? (i := 1593) (by decide +kernel))) rfl
set_option maxRecDepth 20000 in
theorem se_X9_canBe : Cond.selects RX9 yX9_canBe yX9_canBe ∈ wG := wG_of (List.mem_append_left _ (List.mem_of_getElem? (i := 103) (by decide +kernel))) rfl
abbrev m_X9_canChain : Mi := (yX9_canChain, cX9_canChain, 5, some (.boolean))
set_option maxRecDepth 20000 in
theorem mk_X9_canChain : Mk m_X9_canChain 4 := ⟨by decide +kernel, ⟨by decide +kernel, by decide +kernel⟩, by decide +kernel, by decide, wG_of (List.mem_append_right _ (List.mem_of_getElem? (i := 1535) (by decide +kernel))) rfl, wG_of (List.mem_append_right _ (List.mem_of_getElem? (i := 6) (by decide +kernel))) rfl⟩
set_option maxRecDepth 20000 in
theorem im_X9_canChain : Cond.instanceMethod yX9_canChain ∈ wG := wG_of (List.mem_append_right _ (List.mem_of_getElem? (i := 1534) (by decide +kernel))) rfl
set_option maxRecDepth 20000 in
theorem se_X9_canChain : Cond.selects RX9 yX9_canChain yX9_canChain ∈ wG := wG_of (List.mem_append_left _ (List.mem_of_getElem? (i := 95) (by decide +kernel))) rfl
abbrev m_X9_canHold : Mi := (yX9_canHold, cX9_canHold, 3, some (.boolean))
set_option maxRecDepth 20000 in
theorem mk_X9_canHold : Mk m_X9_canHold 1 := ⟨by decide +kernel, ⟨by decide +kernel, by decide +kernel⟩, by decide +kernel, by decide, wG_of (List.mem_append_right _ (List.mem_of_getElem? (i := 1441) (by decide +kernel))) rfl, wG_of (List.mem_append_right _ (List.mem_of_getElem? (i := 6) (by decide +kernel))) rfl⟩
set_option maxRecDepth 20000 in
theorem im_X9_canHold : Cond.instanceMethod yX9_canHold ∈ wG := wG_of (List.mem_append_right _ (List.mem_of_getElem? (i := 1440) (by decide +kernel))) rfl
set_option maxRecDepth 20000 in
theorem se_X9_canHold : Cond.selects RX9 yX9_canHold yX9_canHold ∈ wG := wG_of (List.mem_append_left _ (List.mem_of_getElem? (i := 80) (by decide +kernel))) rfl
abbrev m_X9_chain : Mi := (yX9_chain, cX9_chain, 5, some (.int))
set_option maxRecDepth 20000 in
theorem mk_X9_chain : Mk m_X9_chain 4 := ⟨by decide +kernel, ⟨by decide +kernel, by decide +kernel⟩, by decide +kernel, by decide, wG_of (List.mem_append_right _ (List.mem_of_getElem? (i := 1531) (by decide +kernel))) rfl, wG_of (List.mem_append_right _ (List.mem_of_getElem? (i := 6) (by decide +kernel))) rfl⟩
set_option maxRecDepth 20000 in
theorem im_X9_chain : Cond.instanceMethod yX9_chain ∈ wG := wG_of (List.mem_append_right _ (List.mem_of_getElem? (i := 1529) (by decide +kernel))) rfl
set_option maxRecDepth 20000 in
theorem se_X9_chain : Cond.selects RX9 yX9_chain yX9_chain ∈ wG := wG_of (List.mem_append_right _ (List.mem_of_getElem? (i := 1530) (by decide +kernel))) rfl
abbrev m_X9_chainOf : Mi := (yX9_chainOf, cX9_chainOf, 7, none)
set_option maxRecDepth 20000 in
theorem mk_X9_chainOf : Mk m_X9_chainOf 2 := ⟨by decide +kernel, ⟨by decide +kernel, by decide +kernel⟩, by decide +kernel, by decide, wG_of (List.mem_append_right _ (List.mem_of_getElem? (i := 1543) (by decide +kernel))) rfl, wG_of (List.mem_append_right _ (List.mem_of_getElem? (i := 6) (by decide +kernel))) rfl⟩
set_option maxRecDepth 20000 in
theorem im_X9_chainOf : Cond.instanceMethod yX9_chainOf ∈ wG := wG_of (List.mem_append_right _ (List.mem_of_getElem? (i := 1542) (by decide +kernel))) rfl
set_option maxRecDepth 20000 in
theorem se_X9_chainOf : Cond.selects RX9 yX9_chainOf yX9_chainOf ∈ wG := wG_of (List.mem_append_left _ (List.mem_of_getElem? (i := 97) (by decide +kernel))) rfl
abbrev m_X9_claim : Mi := (yX9_claim, cX9_claim, 3, some (.int))
set_option maxRecDepth 20000 in
theorem mk_X9_claim : Mk m_X9_claim 2 := ⟨by decide +kernel, ⟨by decide +kernel, by decide +kernel⟩, by decide +kernel, by decide, wG_of (List.mem_append_right _ (List.mem_of_getElem? (i := 1409) (by decide +kernel))) rfl, wG_of (List.mem_append_right _ (List.mem_of_getElem? (i := 6) (by decide +kernel))) rfl⟩
set_option maxRecDepth 20000 in
theorem im_X9_claim : Cond.instanceMethod yX9_claim ∈ wG := wG_of (List.mem_append_right _ (List.mem_of_getElem? (i := 1407) (by decide +kernel))) rfl
set_option maxRecDepth 20000 in
theorem se_X9_claim : Cond.selects RX9 yX9_claim yX9_claim ∈ wG := wG_of (List.mem_append_right _ (List.mem_of_getElem? (i := 1408) (by decide +kernel))) rfl
abbrev m_X9_clear : Mi := (yX9_clear, cX9_clear, 3, none)
set_option maxRecDepth 20000 in
theorem mk_X9_clear : Mk m_X9_clear 1 := ⟨by decide +kernel, ⟨by decide +kernel, by decide +kernel⟩, by decide +kernel, by decide, wG_of (List.mem_append_right _ (List.mem_of_getElem? (i := 1003) (by decide +kernel))) rfl, wG_of (List.mem_append_right _ (List.mem_of_getElem? (i := 6) (by decide +kernel))) rfl⟩
set_option maxRecDepth 20000 in
theorem im_X9_clear : Cond.instanceMethod yX9_clear ∈ wG := wG_of (List.mem_append_right _ (List.mem_of_getElem? (i := 1002) (by decide +kernel))) rfl
set_option maxRecDepth 20000 in
theorem se_X9_clear : Cond.selects RX9 yX9_clear yX9_clear ∈ wG := wG_of (List.mem_append_left _ (List.mem_of_getElem? (i := 49) (by decide +kernel))) rfl
abbrev m_X9_counted : Mi := (yX9_counted, cX9_counted, 6, some (.int))
set_option maxRecDepth 20000 in
theorem mk_X9_counted : Mk m_X9_counted 5 := ⟨by decide +kernel, ⟨by decide +kernel, by decide +kernel⟩, by decide +kernel, by decide, wG_of (List.mem_append_right _ (List.mem_of_getElem? (i := 1471) (by decide +kernel))) rfl, wG_of (List.mem_append_right _ (List.mem_of_getElem? (i := 6) (by decide +kernel))) rfl⟩
set_option maxRecDepth 20000 in
theorem im_X9_counted : Cond.instanceMethod yX9_counted ∈ wG := wG_of (List.mem_append_right _ (List.mem_of_getElem? (i := 1469) (by decide +kernel))) rfl
set_option maxRecDepth 20000 in
theorem se_X9_counted : Cond.selects RX9 yX9_counted yX9_counted ∈ wG := wG_of (List.mem_append_right _ (List.mem_of_getElem? (i := 1470) (by decide +kernel))) rfl
abbrev m_X9_counts : Mi := (yX9_counts, cX9_counts, 5, some (.boolean))
set_option maxRecDepth 20000 in
theorem mk_X9_counts : Mk m_X9_counts 4 := ⟨by decide +kernel, ⟨by decide +kernel, by decide +kernel⟩, by decide +kernel, by decide, wG_of (List.mem_append_right _ (List.mem_of_getElem? (i := 1430) (by decide +kernel))) rfl, wG_of (List.mem_append_right _ (List.mem_of_getElem? (i := 6) (by decide +kernel))) rfl⟩
set_option maxRecDepth 20000 in
theorem im_X9_counts : Cond.instanceMethod yX9_counts ∈ wG := wG_of (List.mem_append_right _ (List.mem_of_getElem? (i := 1429) (by decide +kernel))) rfl
set_option maxRecDepth 20000 in
theorem se_X9_counts : Cond.selects RX9 yX9_counts yX9_counts ∈ wG := wG_of (List.mem_append_left _ (List.mem_of_getElem? (i := 78) (by decide +kernel))) rfl
abbrev m_X9_draw : Mi := (yX9_draw, cX9_draw, 5, none)
set_option maxRecDepth 20000 in
theorem mk_X9_draw : Mk m_X9_draw 3 := ⟨by decide +kernel, ⟨by decide +kernel, by decide +kernel⟩, by decide +kernel, by decide, wG_of (List.mem_append_right _ (List.mem_of_getElem? (i := 1454) (by decide +kernel))) rfl, wG_of (List.mem_append_right _ (List.mem_of_getElem? (i := 6) (by decide +kernel))) rfl⟩
set_option maxRecDepth 20000 in
theorem im_X9_draw : Cond.instanceMethod yX9_draw ∈ wG := wG_of (List.mem_append_right _ (List.mem_of_getElem? (i := 1453) (by decide +kernel))) rfl
set_option maxRecDepth 20000 in
theorem se_X9_draw : Cond.selects RX9 yX9_draw yX9_draw ∈ wG := wG_of (List.mem_append_left _ (List.mem_of_getElem? (i := 83) (by decide +kernel))) rfl
abbrev m_X9_drawAll : Mi := (yX9_drawAll, cX9_drawAll, 5, none)
set_option maxRecDepth 20000 in
theorem mk_X9_drawAll : Mk m_X9_drawAll 1 := ⟨by decide +kernel, ⟨by decide +kernel, by decide +kernel⟩, by decide +kernel, by decide, wG_of (List.mem_append_right _ (List.mem_of_getElem? (i := 1445) (by decide +kernel))) rfl, wG_of (List.mem_append_right _ (List.mem_of_getElem? (i := 6) (by decide +kernel))) rfl⟩
set_option maxRecDepth 20000 in
theorem im_X9_drawAll : Cond.instanceMethod yX9_drawAll ∈ wG := wG_of (List.mem_append_right _ (List.mem_of_getElem? (i := 1444) (by decide +kernel))) rfl
set_option maxRecDepth 20000 in
theorem se_X9_drawAll : Cond.selects RX9 yX9_drawAll yX9_drawAll ∈ wG := wG_of (List.mem_append_left _ (List.mem_of_getElem? (i := 81) (by decide +kernel))) rfl
abbrev m_X9_due : Mi := (yX9_due, cX9_due, 8, some (.long))
set_option maxRecDepth 20000 in
theorem mk_X9_due : Mk m_X9_due 4 := ⟨by decide +kernel, ⟨by decide +kernel, by decide +kernel⟩, by decide +kernel, by decide, wG_of (List.mem_append_right _ (List.mem_of_getElem? (i := 1551) (by decide +kernel))) rfl, wG_of (List.mem_append_right _ (List.mem_of_getElem? (i := 6) (by decide +kernel))) rfl⟩
set_option maxRecDepth 20000 in
theorem im_X9_due : Cond.instanceMethod yX9_due ∈ wG := wG_of (List.mem_append_right _ (List.mem_of_getElem? (i := 1549) (by decide +kernel))) rfl
set_option maxRecDepth 20000 in
theorem se_X9_due : Cond.selects RX9 yX9_due yX9_due ∈ wG := wG_of (List.mem_append_right _ (List.mem_of_getElem? (i := 1550) (by decide +kernel))) rfl
abbrev m_X9_e : Mi := (yX9_e, cX9_e, 2, none)
set_option maxRecDepth 20000 in
theorem mk_X9_e : Mk m_X9_e 0 := ⟨by decide +kernel, ⟨by decide +kernel, by decide +kernel⟩, by decide +kernel, by decide, wG_of (List.mem_append_right _ (List.mem_of_getElem? (i := 1308) (by decide +kernel))) rfl, wG_of (List.mem_append_right _ (List.mem_of_getElem? (i := 6) (by decide +kernel))) rfl⟩
set_option maxRecDepth 20000 in
theorem im_X9_e : Cond.instanceMethod yX9_e ∈ wG := wG_of (List.mem_append_right _ (List.mem_of_getElem? (i := 1307) (by decide +kernel))) rfl
set_option maxRecDepth 20000 in
theorem se_X9_e : Cond.selects RX9 yX9_e yX9_e ∈ wG := wG_of (List.mem_append_left _ (List.mem_of_getElem? (i := 63) (by decide +kernel))) rfl
abbrev m_X9_empty : Mi := (yX9_empty, cX9_empty, 6, some (.int))
set_option maxRecDepth 20000 in
theorem mk_X9_empty : Mk m_X9_empty 5 := ⟨by decide +kernel, ⟨by decide +kernel, by decide +kernel⟩, by decide +kernel, by decide, wG_of (List.mem_append_right _ (List.mem_of_getElem? (i := 1498) (by decide +kernel))) rfl, wG_of (List.mem_append_right _ (List.mem_of_getElem? (i := 6) (by decide +kernel))) rfl⟩
set_option maxRecDepth 20000 in
theorem im_X9_empty : Cond.instanceMethod yX9_empty ∈ wG := wG_of (List.mem_append_right _ (List.mem_of_getElem? (i := 1496) (by decide +kernel))) rfl
set_option maxRecDepth 20000 in
theorem se_X9_empty : Cond.selects RX9 yX9_empty yX9_empty ∈ wG := wG_of (List.mem_append_right _ (List.mem_of_getElem? (i := 1497) (by decide +kernel))) rfl
abbrev m_X9_end : Mi := (yX9_end, cX9_end, 2, some (.int))
set_option maxRecDepth 20000 in
theorem mk_X9_end : Mk m_X9_end 1 := ⟨by decide +kernel, ⟨by decide +kernel, by decide +kernel⟩, by decide +kernel, by decide, wG_of (List.mem_append_right _ (List.mem_of_getElem? (i := 1610) (by decide +kernel))) rfl, wG_of (List.mem_append_right _ (List.mem_of_getElem? (i := 6) (by decide +kernel))) rfl⟩
set_option maxRecDepth 20000 in
theorem im_X9_end : Cond.instanceMethod yX9_end ∈ wG := wG_of (List.mem_append_right _ (List.mem_of_getElem? (i := 1608) (by decide +kernel))) rfl
set_option maxRecDepth 20000 in
theorem se_X9_end : Cond.selects RX9 yX9_end yX9_end ∈ wG := wG_of (List.mem_append_right _ (List.mem_of_getElem? (i := 1609) (by decide +kernel))) rfl
abbrev m_X9_fact : Mi := (yX9_fact, cX9_fact, 6, some (.int))
set_option maxRecDepth 20000 in
theorem mk_X9_fact : Mk m_X9_fact 5 := ⟨by decide +kernel, ⟨by decide +kernel, by decide +kernel⟩, by decide +kernel, by decide, wG_of (List.mem_append_right _ (List.mem_of_getElem? (i := 1387) (by decide +kernel))) rfl, wG_of (List.mem_append_right _ (List.mem_of_getElem? (i := 6) (by decide +kernel))) rfl⟩
set_option maxRecDepth 20000 in
theorem im_X9_fact : Cond.instanceMethod yX9_fact ∈ wG := wG_of (List.mem_append_right _ (List.mem_of_getElem? (i := 1386) (by decide +kernel))) rfl
set_option maxRecDepth 20000 in
theorem se_X9_fact : Cond.selects RX9 yX9_fact yX9_fact ∈ wG := wG_of (List.mem_append_left _ (List.mem_of_getElem? (i := 76) (by decide +kernel))) rfl
abbrev m_X9_fails : Mi := (yX9_fails, cX9_fails, 3, none)
set_option maxRecDepth 20000 in
theorem mk_X9_fails : Mk m_X9_fails 2 := ⟨by decide +kernel, ⟨by decide +kernel, by decide +kernel⟩, by decide +kernel, by decide, wG_of (List.mem_append_right _ (List.mem_of_getElem? (i := 1278) (by decide +kernel))) rfl, wG_of (List.mem_append_right _ (List.mem_of_getElem? (i := 6) (by decide +kernel))) rfl⟩
set_option maxRecDepth 20000 in
theorem im_X9_fails : Cond.instanceMethod yX9_fails ∈ wG := wG_of (List.mem_append_right _ (List.mem_of_getElem? (i := 1277) (by decide +kernel))) rfl
set_option maxRecDepth 20000 in
theorem se_X9_fails : Cond.selects RX9 yX9_fails yX9_fails ∈ wG := wG_of (List.mem_append_left _ (List.mem_of_getElem? (i := 57) (by decide +kernel))) rfl
abbrev m_X9_fault : Mi := (yX9_fault, cX9_fault, 2, some (.int))
set_option maxRecDepth 20000 in
theorem mk_X9_fault : Mk m_X9_fault 1 := ⟨by decide +kernel, ⟨by decide +kernel, by decide +kernel⟩, by decide +kernel, by decide, wG_of (List.mem_append_right _ (List.mem_of_getElem? (i := 1365) (by decide +kernel))) rfl, wG_of (List.mem_append_right _ (List.mem_of_getElem? (i := 6) (by decide +kernel))) rfl⟩
set_option maxRecDepth 20000 in
theorem im_X9_fault : Cond.instanceMethod yX9_fault ∈ wG := wG_of (List.mem_append_right _ (List.mem_of_getElem? (i := 1363) (by decide +kernel))) rfl
set_option maxRecDepth 20000 in
theorem se_X9_fault : Cond.selects RX9 yX9_fault yX9_fault ∈ wG := wG_of (List.mem_append_right _ (List.mem_of_getElem? (i := 1364) (by decide +kernel))) rfl
abbrev m_X9_feed : Mi := (yX9_feed, cX9_feed, 8, some (.int))
set_option maxRecDepth 20000 in
theorem mk_X9_feed : Mk m_X9_feed 5 := ⟨by decide +kernel, ⟨by decide +kernel, by decide +kernel⟩, by decide +kernel, by decide, wG_of (List.mem_append_right _ (List.mem_of_getElem? (i := 1606) (by decide +kernel))) rfl, wG_of (List.mem_append_right _ (List.mem_of_getElem? (i := 6) (by decide +kernel))) rfl⟩
set_option maxRecDepth 20000 in
theorem im_X9_feed : Cond.instanceMethod yX9_feed ∈ wG := wG_of (List.mem_append_right _ (List.mem_of_getElem? (i := 1604) (by decide +kernel))) rfl
set_option maxRecDepth 20000 in
theorem se_X9_feed : Cond.selects RX9 yX9_feed yX9_feed ∈ wG := wG_of (List.mem_append_right _ (List.mem_of_getElem? (i := 1605) (by decide +kernel))) rfl
abbrev m_X9_gather : Mi := (yX9_gather, cX9_gather, 8, none)
set_option maxRecDepth 20000 in
theorem mk_X9_gather : Mk m_X9_gather 4 := ⟨by decide +kernel, ⟨by decide +kernel, by decide +kernel⟩, by decide +kernel, by decide, wG_of (List.mem_append_right _ (List.mem_of_getElem? (i := 1539) (by decide +kernel))) rfl, wG_of (List.mem_append_right _ (List.mem_of_getElem? (i := 6) (by decide +kernel))) rfl⟩
set_option maxRecDepth 20000 in
theorem im_X9_gather : Cond.instanceMethod yX9_gather ∈ wG := wG_of (List.mem_append_right _ (List.mem_of_getElem? (i := 1538) (by decide +kernel))) rfl
set_option maxRecDepth 20000 in
theorem se_X9_gather : Cond.selects RX9 yX9_gather yX9_gather ∈ wG := wG_of (List.mem_append_left _ (List.mem_of_getElem? (i := 96) (by decide +kernel))) rfl
abbrev m_X9_habit : Mi := (yX9_habit, cX9_habit, 5, some (.int))
set_option maxRecDepth 20000 in
theorem mk_X9_habit : Mk m_X9_habit 2 := ⟨by decide +kernel, ⟨by decide +kernel, by decide +kernel⟩, by decide +kernel, by decide, wG_of (List.mem_append_right _ (List.mem_of_getElem? (i := 1487) (by decide +kernel))) rfl, wG_of (List.mem_append_right _ (List.mem_of_getElem? (i := 6) (by decide +kernel))) rfl⟩
set_option maxRecDepth 20000 in
theorem im_X9_habit : Cond.instanceMethod yX9_habit ∈ wG := wG_of (List.mem_append_right _ (List.mem_of_getElem? (i := 1486) (by decide +kernel))) rfl
set_option maxRecDepth 20000 in
theorem se_X9_habit : Cond.selects RX9 yX9_habit yX9_habit ∈ wG := wG_of (List.mem_append_left _ (List.mem_of_getElem? (i := 89) (by decide +kernel))) rfl
abbrev m_X9_holds : Mi := (yX9_holds, cX9_holds, 7, some (.boolean))
set_option maxRecDepth 20000 in
theorem mk_X9_holds : Mk m_X9_holds 3 := ⟨by decide +kernel, ⟨by decide +kernel, by decide +kernel⟩, by decide +kernel, by decide, wG_of (List.mem_append_right _ (List.mem_of_getElem? (i := 1479) (by decide +kernel))) rfl, wG_of (List.mem_append_right _ (List.mem_of_getElem? (i := 6) (by decide +kernel))) rfl⟩
set_option maxRecDepth 20000 in
theorem im_X9_holds : Cond.instanceMethod yX9_holds ∈ wG := wG_of (List.mem_append_right _ (List.mem_of_getElem? (i := 1478) (by decide +kernel))) rfl
set_option maxRecDepth 20000 in
theorem se_X9_holds : Cond.selects RX9 yX9_holds yX9_holds ∈ wG := wG_of (List.mem_append_left _ (List.mem_of_getElem? (i := 87) (by decide +kernel))) rfl
abbrev m_X9_holiday : Mi := (yX9_holiday, cX9_holiday, 5, some (.int))
set_option maxRecDepth 20000 in
theorem mk_X9_holiday : Mk m_X9_holiday 4 := ⟨by decide +kernel, ⟨by decide +kernel, by decide +kernel⟩, by decide +kernel, by decide, wG_of (List.mem_append_right _ (List.mem_of_getElem? (i := 1400) (by decide +kernel))) rfl, wG_of (List.mem_append_right _ (List.mem_of_getElem? (i := 6) (by decide +kernel))) rfl⟩
set_option maxRecDepth 20000 in
theorem im_X9_holiday : Cond.instanceMethod yX9_holiday ∈ wG := wG_of (List.mem_append_right _ (List.mem_of_getElem? (i := 1398) (by decide +kernel))) rfl
set_option maxRecDepth 20000 in
theorem se_X9_holiday : Cond.selects RX9 yX9_holiday yX9_holiday ∈ wG := wG_of (List.mem_append_right _ (List.mem_of_getElem? (i := 1399) (by decide +kernel))) rfl
abbrev m_X9_init : Mi := (yX9_init, cX9_init, 2, none)
set_option maxRecDepth 20000 in
theorem mk_X9_init : Mk m_X9_init 0 := ⟨by decide +kernel, ⟨by decide +kernel, by decide +kernel⟩, by decide +kernel, by decide, wG_of (List.mem_append_right _ (List.mem_of_getElem? (i := 998) (by decide +kernel))) rfl, wG_of (List.mem_append_right _ (List.mem_of_getElem? (i := 6) (by decide +kernel))) rfl⟩
set_option maxRecDepth 20000 in
theorem im_X9_init : Cond.instanceMethod yX9_init ∈ wG := wG_of (List.mem_append_right _ (List.mem_of_getElem? (i := 997) (by decide +kernel))) rfl
abbrev m_X9_is : Mi := (yX9_is, cX9_is, 2, some (.boolean))
set_option maxRecDepth 20000 in
theorem mk_X9_is : Mk m_X9_is 1 := ⟨by decide +kernel, ⟨by decide +kernel, by decide +kernel⟩, by decide +kernel, by decide, wG_of (List.mem_append_right _ (List.mem_of_getElem? (i := 1321) (by decide +kernel))) rfl, wG_of (List.mem_append_right _ (List.mem_of_getElem? (i := 6) (by decide +kernel))) rfl⟩
set_option maxRecDepth 20000 in
theorem im_X9_is : Cond.instanceMethod yX9_is ∈ wG := wG_of (List.mem_append_right _ (List.mem_of_getElem? (i := 1320) (by decide +kernel))) rfl
set_option maxRecDepth 20000 in
theorem se_X9_is : Cond.selects RX9 yX9_is yX9_is ∈ wG := wG_of (List.mem_append_left _ (List.mem_of_getElem? (i := 66) (by decide +kernel))) rfl
abbrev m_X9_isBarred : Mi := (yX9_isBarred, cX9_isBarred, 4, some (.boolean))
set_option maxRecDepth 20000 in
theorem mk_X9_isBarred : Mk m_X9_isBarred 2 := ⟨by decide +kernel, ⟨by decide +kernel, by decide +kernel⟩, by decide +kernel, by decide, wG_of (List.mem_append_right _ (List.mem_of_getElem? (i := 1527) (by decide +kernel))) rfl, wG_of (List.mem_append_right _ (List.mem_of_getElem? (i := 6) (by decide +kernel))) rfl⟩
set_option maxRecDepth 20000 in
theorem im_X9_isBarred : Cond.instanceMethod yX9_isBarred ∈ wG := wG_of (List.mem_append_right _ (List.mem_of_getElem? (i := 1526) (by decide +kernel))) rfl
set_option maxRecDepth 20000 in
theorem se_X9_isBarred : Cond.selects RX9 yX9_isBarred yX9_isBarred ∈ wG := wG_of (List.mem_append_left _ (List.mem_of_getElem? (i := 94) (by decide +kernel))) rfl
abbrev m_X9_isCompared : Mi := (yX9_isCompared, cX9_isCompared, 2, some (.boolean))
set_option maxRecDepth 20000 in
theorem mk_X9_isCompared : Mk m_X9_isCompared 0 := ⟨by decide +kernel, ⟨by decide +kernel, by decide +kernel⟩, by decide +kernel, by decide, wG_of (List.mem_append_right _ (List.mem_of_getElem? (i := 1349) (by decide +kernel))) rfl, wG_of (List.mem_append_right _ (List.mem_of_getElem? (i := 6) (by decide +kernel))) rfl⟩
set_option maxRecDepth 20000 in
theorem im_X9_isCompared : Cond.instanceMethod yX9_isCompared ∈ wG := wG_of (List.mem_append_right _ (List.mem_of_getElem? (i := 1348) (by decide +kernel))) rfl
set_option maxRecDepth 20000 in
theorem se_X9_isCompared : Cond.selects RX9 yX9_isCompared yX9_isCompared ∈ wG := wG_of (List.mem_append_left _ (List.mem_of_getElem? (i := 71) (by decide +kernel))) rfl
abbrev m_X9_isDigit : Mi := (yX9_isDigit, cX9_isDigit, 1, some (.boolean))
set_option maxRecDepth 20000 in
theorem mk_X9_isDigit : Mk m_X9_isDigit 1 := ⟨by decide +kernel, ⟨by decide +kernel, by decide +kernel⟩, by decide +kernel, by decide, wG_of (List.mem_append_right _ (List.mem_of_getElem? (i := 1242) (by decide +kernel))) rfl, wG_of (List.mem_append_right _ (List.mem_of_getElem? (i := 6) (by decide +kernel))) rfl⟩
set_option maxRecDepth 20000 in
theorem st_X9_isDigit : Cond.static yX9_isDigit ∈ wG := wG_of (List.mem_append_right _ (List.mem_of_getElem? (i := 1241) (by decide +kernel))) rfl
abbrev m_X9_isGood : Mi := (yX9_isGood, cX9_isGood, 1, some (.boolean))
set_option maxRecDepth 20000 in
theorem mk_X9_isGood : Mk m_X9_isGood 0 := ⟨by decide +kernel, ⟨by decide +kernel, by decide +kernel⟩, by decide +kernel, by decide, wG_of (List.mem_append_right _ (List.mem_of_getElem? (i := 1249) (by decide +kernel))) rfl, wG_of (List.mem_append_right _ (List.mem_of_getElem? (i := 6) (by decide +kernel))) rfl⟩
set_option maxRecDepth 20000 in
theorem im_X9_isGood : Cond.instanceMethod yX9_isGood ∈ wG := wG_of (List.mem_append_right _ (List.mem_of_getElem? (i := 1248) (by decide +kernel))) rfl
set_option maxRecDepth 20000 in
theorem se_X9_isGood : Cond.selects RX9 yX9_isGood yX9_isGood ∈ wG := wG_of (List.mem_append_left _ (List.mem_of_getElem? (i := 52) (by decide +kernel))) rfl
abbrev m_X9_isIn : Mi := (yX9_isIn, cX9_isIn, 3, some (.boolean))
set_option maxRecDepth 20000 in
theorem mk_X9_isIn : Mk m_X9_isIn 3 := ⟨by decide +kernel, ⟨by decide +kernel, by decide +kernel⟩, by decide +kernel, by decide, wG_of (List.mem_append_right _ (List.mem_of_getElem? (i := 1372) (by decide +kernel))) rfl, wG_of (List.mem_append_right _ (List.mem_of_getElem? (i := 6) (by decide +kernel))) rfl⟩
set_option maxRecDepth 20000 in
theorem st_X9_isIn : Cond.static yX9_isIn ∈ wG := wG_of (List.mem_append_right _ (List.mem_of_getElem? (i := 1371) (by decide +kernel))) rfl
abbrev m_X9_isLetter : Mi := (yX9_isLetter, cX9_isLetter, 1, some (.boolean))
set_option maxRecDepth 20000 in
theorem mk_X9_isLetter : Mk m_X9_isLetter 1 := ⟨by decide +kernel, ⟨by decide +kernel, by decide +kernel⟩, by decide +kernel, by decide, wG_of (List.mem_append_right _ (List.mem_of_getElem? (i := 1239) (by decide +kernel))) rfl, wG_of (List.mem_append_right _ (List.mem_of_getElem? (i := 6) (by decide +kernel))) rfl⟩
set_option maxRecDepth 20000 in
theorem st_X9_isLetter : Cond.static yX9_isLetter ∈ wG := wG_of (List.mem_append_right _ (List.mem_of_getElem? (i := 1238) (by decide +kernel))) rfl
abbrev m_X9_isOf : Mi := (yX9_isOf, cX9_isOf, 3, some (.boolean))
set_option maxRecDepth 20000 in
theorem mk_X9_isOf : Mk m_X9_isOf 2 := ⟨by decide +kernel, ⟨by decide +kernel, by decide +kernel⟩, by decide +kernel, by decide, wG_of (List.mem_append_right _ (List.mem_of_getElem? (i := 1506) (by decide +kernel))) rfl, wG_of (List.mem_append_right _ (List.mem_of_getElem? (i := 6) (by decide +kernel))) rfl⟩
set_option maxRecDepth 20000 in
theorem im_X9_isOf : Cond.instanceMethod yX9_isOf ∈ wG := wG_of (List.mem_append_right _ (List.mem_of_getElem? (i := 1505) (by decide +kernel))) rfl
set_option maxRecDepth 20000 in
theorem se_X9_isOf : Cond.selects RX9 yX9_isOf yX9_isOf ∈ wG := wG_of (List.mem_append_left _ (List.mem_of_getElem? (i := 91) (by decide +kernel))) rfl
abbrev m_X9_isShelf : Mi := (yX9_isShelf, cX9_isShelf, 1, some (.boolean))
set_option maxRecDepth 20000 in
theorem mk_X9_isShelf : Mk m_X9_isShelf 1 := ⟨by decide +kernel, ⟨by decide +kernel, by decide +kernel⟩, by decide +kernel, by decide, wG_of (List.mem_append_right _ (List.mem_of_getElem? (i := 1228) (by decide +kernel))) rfl, wG_of (List.mem_append_right _ (List.mem_of_getElem? (i := 6) (by decide +kernel))) rfl⟩
set_option maxRecDepth 20000 in
theorem st_X9_isShelf : Cond.static yX9_isShelf ∈ wG := wG_of (List.mem_append_right _ (List.mem_of_getElem? (i := 1227) (by decide +kernel))) rfl
abbrev m_X9_isSign : Mi := (yX9_isSign, cX9_isSign, 1, some (.boolean))
set_option maxRecDepth 20000 in
theorem mk_X9_isSign : Mk m_X9_isSign 1 := ⟨by decide +kernel, ⟨by decide +kernel, by decide +kernel⟩, by decide +kernel, by decide, wG_of (List.mem_append_right _ (List.mem_of_getElem? (i := 1245) (by decide +kernel))) rfl, wG_of (List.mem_append_right _ (List.mem_of_getElem? (i := 6) (by decide +kernel))) rfl⟩
set_option maxRecDepth 20000 in
theorem st_X9_isSign : Cond.static yX9_isSign ∈ wG := wG_of (List.mem_append_right _ (List.mem_of_getElem? (i := 1244) (by decide +kernel))) rfl
abbrev m_X9_isWeek : Mi := (yX9_isWeek, cX9_isWeek, 1, some (.boolean))
set_option maxRecDepth 20000 in
theorem mk_X9_isWeek : Mk m_X9_isWeek 1 := ⟨by decide +kernel, ⟨by decide +kernel, by decide +kernel⟩, by decide +kernel, by decide, wG_of (List.mem_append_right _ (List.mem_of_getElem? (i := 1383) (by decide +kernel))) rfl, wG_of (List.mem_append_right _ (List.mem_of_getElem? (i := 6) (by decide +kernel))) rfl⟩
set_option maxRecDepth 20000 in
theorem st_X9_isWeek : Cond.static yX9_isWeek ∈ wG := wG_of (List.mem_append_right _ (List.mem_of_getElem? (i := 1382) (by decide +kernel))) rfl
abbrev m_X9_isWord : Mi := (yX9_isWord, cX9_isWord, 3, some (.boolean))
set_option maxRecDepth 20000 in
theorem mk_X9_isWord : Mk m_X9_isWord 1 := ⟨by decide +kernel, ⟨by decide +kernel, by decide +kernel⟩, by decide +kernel, by decide, wG_of (List.mem_append_right _ (List.mem_of_getElem? (i := 1258) (by decide +kernel))) rfl, wG_of (List.mem_append_right _ (List.mem_of_getElem? (i := 6) (by decide +kernel))) rfl⟩
set_option maxRecDepth 20000 in
theorem im_X9_isWord : Cond.instanceMethod yX9_isWord ∈ wG := wG_of (List.mem_append_right _ (List.mem_of_getElem? (i := 1257) (by decide +kernel))) rfl
set_option maxRecDepth 20000 in
theorem se_X9_isWord : Cond.selects RX9 yX9_isWord yX9_isWord ∈ wG := wG_of (List.mem_append_left _ (List.mem_of_getElem? (i := 54) (by decide +kernel))) rfl
abbrev m_X9_isWorker : Mi := (yX9_isWorker, cX9_isWorker, 2, some (.boolean))
set_option maxRecDepth 20000 in
theorem mk_X9_isWorker : Mk m_X9_isWorker 1 := ⟨by decide +kernel, ⟨by decide +kernel, by decide +kernel⟩, by decide +kernel, by decide, wG_of (List.mem_append_right _ (List.mem_of_getElem? (i := 1380) (by decide +kernel))) rfl, wG_of (List.mem_append_right _ (List.mem_of_getElem? (i := 6) (by decide +kernel))) rfl⟩
set_option maxRecDepth 20000 in
theorem im_X9_isWorker : Cond.instanceMethod yX9_isWorker ∈ wG := wG_of (List.mem_append_right _ (List.mem_of_getElem? (i := 1379) (by decide +kernel))) rfl
set_option maxRecDepth 20000 in
theorem se_X9_isWorker : Cond.selects RX9 yX9_isWorker yX9_isWorker ∈ wG := wG_of (List.mem_append_left _ (List.mem_of_getElem? (i := 75) (by decide +kernel))) rfl
abbrev m_X9_kindHere : Mi := (yX9_kindHere, cX9_kindHere, 1, some (.int))
set_option maxRecDepth 20000 in
theorem mk_X9_kindHere : Mk m_X9_kindHere 0 := ⟨by decide +kernel, ⟨by decide +kernel, by decide +kernel⟩, by decide +kernel, by decide, wG_of (List.mem_append_right _ (List.mem_of_getElem? (i := 1286) (by decide +kernel))) rfl, wG_of (List.mem_append_right _ (List.mem_of_getElem? (i := 6) (by decide +kernel))) rfl⟩
set_option maxRecDepth 20000 in
theorem im_X9_kindHere : Cond.instanceMethod yX9_kindHere ∈ wG := wG_of (List.mem_append_right _ (List.mem_of_getElem? (i := 1285) (by decide +kernel))) rfl
set_option maxRecDepth 20000 in
theorem se_X9_kindHere : Cond.selects RX9 yX9_kindHere yX9_kindHere ∈ wG := wG_of (List.mem_append_left _ (List.mem_of_getElem? (i := 59) (by decide +kernel))) rfl
abbrev m_X9_know : Mi := (yX9_know, cX9_know, 5, none)
set_option maxRecDepth 20000 in
theorem mk_X9_know : Mk m_X9_know 2 := ⟨by decide +kernel, ⟨by decide +kernel, by decide +kernel⟩, by decide +kernel, by decide, wG_of (List.mem_append_right _ (List.mem_of_getElem? (i := 1426) (by decide +kernel))) rfl, wG_of (List.mem_append_right _ (List.mem_of_getElem? (i := 6) (by decide +kernel))) rfl⟩
set_option maxRecDepth 20000 in
theorem im_X9_know : Cond.instanceMethod yX9_know ∈ wG := wG_of (List.mem_append_right _ (List.mem_of_getElem? (i := 1425) (by decide +kernel))) rfl
set_option maxRecDepth 20000 in
theorem se_X9_know : Cond.selects RX9 yX9_know yX9_know ∈ wG := wG_of (List.mem_append_left _ (List.mem_of_getElem? (i := 77) (by decide +kernel))) rfl
abbrev m_X9_later : Mi := (yX9_later, cX9_later, 2, some (.int))
set_option maxRecDepth 20000 in
theorem mk_X9_later : Mk m_X9_later 1 := ⟨by decide +kernel, ⟨by decide +kernel, by decide +kernel⟩, by decide +kernel, by decide, wG_of (List.mem_append_right _ (List.mem_of_getElem? (i := 1417) (by decide +kernel))) rfl, wG_of (List.mem_append_right _ (List.mem_of_getElem? (i := 6) (by decide +kernel))) rfl⟩
set_option maxRecDepth 20000 in
theorem im_X9_later : Cond.instanceMethod yX9_later ∈ wG := wG_of (List.mem_append_right _ (List.mem_of_getElem? (i := 1415) (by decide +kernel))) rfl
set_option maxRecDepth 20000 in
theorem se_X9_later : Cond.selects RX9 yX9_later yX9_later ∈ wG := wG_of (List.mem_append_right _ (List.mem_of_getElem? (i := 1416) (by decide +kernel))) rfl
abbrev m_X9_lay : Mi := (yX9_lay, cX9_lay, 3, none)
set_option maxRecDepth 20000 in
theorem mk_X9_lay : Mk m_X9_lay 1 := ⟨by decide +kernel, ⟨by decide +kernel, by decide +kernel⟩, by decide +kernel, by decide, wG_of (List.mem_append_right _ (List.mem_of_getElem? (i := 1361) (by decide +kernel))) rfl, wG_of (List.mem_append_right _ (List.mem_of_getElem? (i := 6) (by decide +kernel))) rfl⟩
set_option maxRecDepth 20000 in
theorem im_X9_lay : Cond.instanceMethod yX9_lay ∈ wG := wG_of (List.mem_append_right _ (List.mem_of_getElem? (i := 1360) (by decide +kernel))) rfl
set_option maxRecDepth 20000 in
theorem se_X9_lay : Cond.selects RX9 yX9_lay yX9_lay ∈ wG := wG_of (List.mem_append_left _ (List.mem_of_getElem? (i := 74) (by decide +kernel))) rfl
abbrev m_X9_link : Mi := (yX9_link, cX9_link, 6, some (.int))
set_option maxRecDepth 20000 in
theorem mk_X9_link : Mk m_X9_link 5 := ⟨by decide +kernel, ⟨by decide +kernel, by decide +kernel⟩, by decide +kernel, by decide, wG_of (List.mem_append_right _ (List.mem_of_getElem? (i := 1547) (by decide +kernel))) rfl, wG_of (List.mem_append_right _ (List.mem_of_getElem? (i := 6) (by decide +kernel))) rfl⟩
set_option maxRecDepth 20000 in
theorem im_X9_link : Cond.instanceMethod yX9_link ∈ wG := wG_of (List.mem_append_right _ (List.mem_of_getElem? (i := 1545) (by decide +kernel))) rfl
set_option maxRecDepth 20000 in
theorem se_X9_link : Cond.selects RX9 yX9_link yX9_link ∈ wG := wG_of (List.mem_append_right _ (List.mem_of_getElem? (i := 1546) (by decide +kernel))) rfl
abbrev m_X9_lost : Mi := (yX9_lost, cX9_lost, 3, some (.int))
set_option maxRecDepth 20000 in
theorem mk_X9_lost : Mk m_X9_lost 2 := ⟨by decide +kernel, ⟨by decide +kernel, by decide +kernel⟩, by decide +kernel, by decide, wG_of (List.mem_append_right _ (List.mem_of_getElem? (i := 1391) (by decide +kernel))) rfl, wG_of (List.mem_append_right _ (List.mem_of_getElem? (i := 6) (by decide +kernel))) rfl⟩
set_option maxRecDepth 20000 in
theorem im_X9_lost : Cond.instanceMethod yX9_lost ∈ wG := wG_of (List.mem_append_right _ (List.mem_of_getElem? (i := 1389) (by decide +kernel))) rfl
set_option maxRecDepth 20000 in
theorem se_X9_lost : Cond.selects RX9 yX9_lost yX9_lost ∈ wG := wG_of (List.mem_append_right _ (List.mem_of_getElem? (i := 1390) (by decide +kernel))) rfl
abbrev m_X9_marks : Mi := (yX9_marks, cX9_marks, 5, some (.int))
set_option maxRecDepth 20000 in
theorem mk_X9_marks : Mk m_X9_marks 4 := ⟨by decide +kernel, ⟨by decide +kernel, by decide +kernel⟩, by decide +kernel, by decide, wG_of (List.mem_append_right _ (List.mem_of_getElem? (i := 1578) (by decide +kernel))) rfl, wG_of (List.mem_append_right _ (List.mem_of_getElem? (i := 6) (by decide +kernel))) rfl⟩
set_option maxRecDepth 20000 in
theorem im_X9_marks : Cond.instanceMethod yX9_marks ∈ wG := wG_of (List.mem_append_right _ (List.mem_of_getElem? (i := 1576) (by decide +kernel))) rfl
set_option maxRecDepth 20000 in
theorem se_X9_marks : Cond.selects RX9 yX9_marks yX9_marks ∈ wG := wG_of (List.mem_append_right _ (List.mem_of_getElem? (i := 1577) (by decide +kernel))) rfl
abbrev m_X9_most : Mi := (yX9_most, cX9_most, 5, some (.long))
set_option maxRecDepth 20000 in
theorem mk_X9_most : Mk m_X9_most 3 := ⟨by decide +kernel, ⟨by decide +kernel, by decide +kernel⟩, by decide +kernel, by decide, wG_of (List.mem_append_right _ (List.mem_of_getElem? (i := 1463) (by decide +kernel))) rfl, wG_of (List.mem_append_right _ (List.mem_of_getElem? (i := 6) (by decide +kernel))) rfl⟩
set_option maxRecDepth 20000 in
theorem im_X9_most : Cond.instanceMethod yX9_most ∈ wG := wG_of (List.mem_append_right _ (List.mem_of_getElem? (i := 1462) (by decide +kernel))) rfl
set_option maxRecDepth 20000 in
theorem se_X9_most : Cond.selects RX9 yX9_most yX9_most ∈ wG := wG_of (List.mem_append_left _ (List.mem_of_getElem? (i := 85) (by decide +kernel))) rfl
abbrev m_X9_must : Mi := (yX9_must, cX9_must, 2, none)
set_option maxRecDepth 20000 in
theorem mk_X9_must : Mk m_X9_must 1 := ⟨by decide +kernel, ⟨by decide +kernel, by decide +kernel⟩, by decide +kernel, by decide, wG_of (List.mem_append_right _ (List.mem_of_getElem? (i := 1295) (by decide +kernel))) rfl, wG_of (List.mem_append_right _ (List.mem_of_getElem? (i := 6) (by decide +kernel))) rfl⟩
set_option maxRecDepth 20000 in
theorem im_X9_must : Cond.instanceMethod yX9_must ∈ wG := wG_of (List.mem_append_right _ (List.mem_of_getElem? (i := 1294) (by decide +kernel))) rfl
set_option maxRecDepth 20000 in
theorem se_X9_must : Cond.selects RX9 yX9_must yX9_must ∈ wG := wG_of (List.mem_append_left _ (List.mem_of_getElem? (i := 60) (by decide +kernel))) rfl
abbrev m_X9_next : Mi := (yX9_next, cX9_next, 3, none)
set_option maxRecDepth 20000 in
theorem mk_X9_next : Mk m_X9_next 0 := ⟨by decide +kernel, ⟨by decide +kernel, by decide +kernel⟩, by decide +kernel, by decide, wG_of (List.mem_append_right _ (List.mem_of_getElem? (i := 1232) (by decide +kernel))) rfl, wG_of (List.mem_append_right _ (List.mem_of_getElem? (i := 6) (by decide +kernel))) rfl⟩
set_option maxRecDepth 20000 in
theorem im_X9_next : Cond.instanceMethod yX9_next ∈ wG := wG_of (List.mem_append_right _ (List.mem_of_getElem? (i := 1231) (by decide +kernel))) rfl
set_option maxRecDepth 20000 in
theorem se_X9_next : Cond.selects RX9 yX9_next yX9_next ∈ wG := wG_of (List.mem_append_left _ (List.mem_of_getElem? (i := 50) (by decide +kernel))) rfl
abbrev m_X9_numberHere : Mi := (yX9_numberHere, cX9_numberHere, 1, some (.int))
set_option maxRecDepth 20000 in
theorem mk_X9_numberHere : Mk m_X9_numberHere 0 := ⟨by decide +kernel, ⟨by decide +kernel, by decide +kernel⟩, by decide +kernel, by decide, wG_of (List.mem_append_right _ (List.mem_of_getElem? (i := 1263) (by decide +kernel))) rfl, wG_of (List.mem_append_right _ (List.mem_of_getElem? (i := 6) (by decide +kernel))) rfl⟩
set_option maxRecDepth 20000 in
theorem im_X9_numberHere : Cond.instanceMethod yX9_numberHere ∈ wG := wG_of (List.mem_append_right _ (List.mem_of_getElem? (i := 1262) (by decide +kernel))) rfl
set_option maxRecDepth 20000 in
theorem se_X9_numberHere : Cond.selects RX9 yX9_numberHere yX9_numberHere ∈ wG := wG_of (List.mem_append_left _ (List.mem_of_getElem? (i := 55) (by decide +kernel))) rfl
abbrev m_X9_numeral : Mi := (yX9_numeral, cX9_numeral, 4, some (.int))
set_option maxRecDepth 20000 in
theorem mk_X9_numeral : Mk m_X9_numeral 2 := ⟨by decide +kernel, ⟨by decide +kernel, by decide +kernel⟩, by decide +kernel, by decide, wG_of (List.mem_append_right _ (List.mem_of_getElem? (i := 1299) (by decide +kernel))) rfl, wG_of (List.mem_append_right _ (List.mem_of_getElem? (i := 6) (by decide +kernel))) rfl⟩
set_option maxRecDepth 20000 in
theorem im_X9_numeral : Cond.instanceMethod yX9_numeral ∈ wG := wG_of (List.mem_append_right _ (List.mem_of_getElem? (i := 1298) (by decide +kernel))) rfl
set_option maxRecDepth 20000 in
theorem se_X9_numeral : Cond.selects RX9 yX9_numeral yX9_numeral ∈ wG := wG_of (List.mem_append_left _ (List.mem_of_getElem? (i := 61) (by decide +kernel))) rfl
abbrev m_X9_owed : Mi := (yX9_owed, cX9_owed, 5, some (.int))
set_option maxRecDepth 20000 in
theorem mk_X9_owed : Mk m_X9_owed 4 := ⟨by decide +kernel, ⟨by decide +kernel, by decide +kernel⟩, by decide +kernel, by decide, wG_of (List.mem_append_right _ (List.mem_of_getElem? (i := 1519) (by decide +kernel))) rfl, wG_of (List.mem_append_right _ (List.mem_of_getElem? (i := 6) (by decide +kernel))) rfl⟩
set_option maxRecDepth 20000 in
theorem im_X9_owed : Cond.instanceMethod yX9_owed ∈ wG := wG_of (List.mem_append_right _ (List.mem_of_getElem? (i := 1517) (by decide +kernel))) rfl
set_option maxRecDepth 20000 in
theorem se_X9_owed : Cond.selects RX9 yX9_owed yX9_owed ∈ wG := wG_of (List.mem_append_right _ (List.mem_of_getElem? (i := 1518) (by decide +kernel))) rfl
abbrev m_X9_owedOf : Mi := (yX9_owedOf, cX9_owedOf, 5, some (.int))
set_option maxRecDepth 20000 in
theorem mk_X9_owedOf : Mk m_X9_owedOf 3 := ⟨by decide +kernel, ⟨by decide +kernel, by decide +kernel⟩, by decide +kernel, by decide, wG_of (List.mem_append_right _ (List.mem_of_getElem? (i := 1523) (by decide +kernel))) rfl, wG_of (List.mem_append_right _ (List.mem_of_getElem? (i := 6) (by decide +kernel))) rfl⟩
set_option maxRecDepth 20000 in
theorem im_X9_owedOf : Cond.instanceMethod yX9_owedOf ∈ wG := wG_of (List.mem_append_right _ (List.mem_of_getElem? (i := 1522) (by decide +kernel))) rfl
set_option maxRecDepth 20000 in
theorem se_X9_owedOf : Cond.selects RX9 yX9_owedOf yX9_owedOf ∈ wG := wG_of (List.mem_append_left _ (List.mem_of_getElem? (i := 93) (by decide +kernel))) rfl
abbrev m_X9_partOf : Mi := (yX9_partOf, cX9_partOf, 5, some (.int))
set_option maxRecDepth 20000 in
theorem mk_X9_partOf : Mk m_X9_partOf 3 := ⟨by decide +kernel, ⟨by decide +kernel, by decide +kernel⟩, by decide +kernel, by decide, wG_of (List.mem_append_right _ (List.mem_of_getElem? (i := 1494) (by decide +kernel))) rfl, wG_of (List.mem_append_right _ (List.mem_of_getElem? (i := 6) (by decide +kernel))) rfl⟩
set_option maxRecDepth 20000 in
theorem im_X9_partOf : Cond.instanceMethod yX9_partOf ∈ wG := wG_of (List.mem_append_right _ (List.mem_of_getElem? (i := 1493) (by decide +kernel))) rfl
set_option maxRecDepth 20000 in
theorem se_X9_partOf : Cond.selects RX9 yX9_partOf yX9_partOf ∈ wG := wG_of (List.mem_append_left _ (List.mem_of_getElem? (i := 90) (by decide +kernel))) rfl
abbrev m_X9_pay : Mi := (yX9_pay, cX9_pay, 5, some (.int))
set_option maxRecDepth 20000 in
theorem mk_X9_pay : Mk m_X9_pay 4 := ⟨by decide +kernel, ⟨by decide +kernel, by decide +kernel⟩, by decide +kernel, by decide, wG_of (List.mem_append_right _ (List.mem_of_getElem? (i := 1376) (by decide +kernel))) rfl, wG_of (List.mem_append_right _ (List.mem_of_getElem? (i := 6) (by decide +kernel))) rfl⟩
set_option maxRecDepth 20000 in
theorem im_X9_pay : Cond.instanceMethod yX9_pay ∈ wG := wG_of (List.mem_append_right _ (List.mem_of_getElem? (i := 1374) (by decide +kernel))) rfl
set_option maxRecDepth 20000 in
theorem se_X9_pay : Cond.selects RX9 yX9_pay yX9_pay ∈ wG := wG_of (List.mem_append_right _ (List.mem_of_getElem? (i := 1375) (by decide +kernel))) rfl
abbrev m_X9_payout : Mi := (yX9_payout, cX9_payout, 5, some (.long))
set_option maxRecDepth 20000 in
theorem mk_X9_payout : Mk m_X9_payout 4 := ⟨by decide +kernel, ⟨by decide +kernel, by decide +kernel⟩, by decide +kernel, by decide, wG_of (List.mem_append_right _ (List.mem_of_getElem? (i := 1561) (by decide +kernel))) rfl, wG_of (List.mem_append_right _ (List.mem_of_getElem? (i := 6) (by decide +kernel))) rfl⟩
set_option maxRecDepth 20000 in
theorem im_X9_payout : Cond.instanceMethod yX9_payout ∈ wG := wG_of (List.mem_append_right _ (List.mem_of_getElem? (i := 1559) (by decide +kernel))) rfl
set_option maxRecDepth 20000 in
theorem se_X9_payout : Cond.selects RX9 yX9_payout yX9_payout ∈ wG := wG_of (List.mem_append_right _ (List.mem_of_getElem? (i := 1560) (by decide +kernel))) rfl
abbrev m_X9_payoutOf : Mi := (yX9_payoutOf, cX9_payoutOf, 8, some (.long))
set_option maxRecDepth 20000 in
theorem mk_X9_payoutOf : Mk m_X9_payoutOf 4 := ⟨by decide +kernel, ⟨by decide +kernel, by decide +kernel⟩, by decide +kernel, by decide, wG_of (List.mem_append_right _ (List.mem_of_getElem? (i := 1565) (by decide +kernel))) rfl, wG_of (List.mem_append_right _ (List.mem_of_getElem? (i := 6) (by decide +kernel))) rfl⟩
set_option maxRecDepth 20000 in
theorem im_X9_payoutOf : Cond.instanceMethod yX9_payoutOf ∈ wG := wG_of (List.mem_append_right _ (List.mem_of_getElem? (i := 1564) (by decide +kernel))) rfl
set_option maxRecDepth 20000 in
theorem se_X9_payoutOf : Cond.selects RX9 yX9_payoutOf yX9_payoutOf ∈ wG := wG_of (List.mem_append_left _ (List.mem_of_getElem? (i := 99) (by decide +kernel))) rfl
abbrev m_X9_plain : Mi := (yX9_plain, cX9_plain, 1, some (.int))
set_option maxRecDepth 20000 in
theorem mk_X9_plain : Mk m_X9_plain 1 := ⟨by decide +kernel, ⟨by decide +kernel, by decide +kernel⟩, by decide +kernel, by decide, wG_of (List.mem_append_right _ (List.mem_of_getElem? (i := 1006) (by decide +kernel))) rfl, wG_of (List.mem_append_right _ (List.mem_of_getElem? (i := 6) (by decide +kernel))) rfl⟩
set_option maxRecDepth 20000 in
theorem st_X9_plain : Cond.static yX9_plain ∈ wG := wG_of (List.mem_append_right _ (List.mem_of_getElem? (i := 1005) (by decide +kernel))) rfl
abbrev m_X9_put : Mi := (yX9_put, cX9_put, 3, none)
set_option maxRecDepth 20000 in
theorem mk_X9_put : Mk m_X9_put 2 := ⟨by decide +kernel, ⟨by decide +kernel, by decide +kernel⟩, by decide +kernel, by decide, wG_of (List.mem_append_right _ (List.mem_of_getElem? (i := 1312) (by decide +kernel))) rfl, wG_of (List.mem_append_right _ (List.mem_of_getElem? (i := 6) (by decide +kernel))) rfl⟩
set_option maxRecDepth 20000 in
theorem im_X9_put : Cond.instanceMethod yX9_put ∈ wG := wG_of (List.mem_append_right _ (List.mem_of_getElem? (i := 1311) (by decide +kernel))) rfl
set_option maxRecDepth 20000 in
theorem se_X9_put : Cond.selects RX9 yX9_put yX9_put ∈ wG := wG_of (List.mem_append_left _ (List.mem_of_getElem? (i := 64) (by decide +kernel))) rfl
abbrev m_X9_quarrel : Mi := (yX9_quarrel, cX9_quarrel, 3, some (.int))
set_option maxRecDepth 20000 in
theorem mk_X9_quarrel : Mk m_X9_quarrel 2 := ⟨by decide +kernel, ⟨by decide +kernel, by decide +kernel⟩, by decide +kernel, by decide, wG_of (List.mem_append_right _ (List.mem_of_getElem? (i := 1467) (by decide +kernel))) rfl, wG_of (List.mem_append_right _ (List.mem_of_getElem? (i := 6) (by decide +kernel))) rfl⟩
set_option maxRecDepth 20000 in
theorem im_X9_quarrel : Cond.instanceMethod yX9_quarrel ∈ wG := wG_of (List.mem_append_right _ (List.mem_of_getElem? (i := 1465) (by decide +kernel))) rfl
set_option maxRecDepth 20000 in
theorem se_X9_quarrel : Cond.selects RX9 yX9_quarrel yX9_quarrel ∈ wG := wG_of (List.mem_append_right _ (List.mem_of_getElem? (i := 1466) (by decide +kernel))) rfl
abbrev m_X9_quarrels : Mi := (yX9_quarrels, cX9_quarrels, 5, some (.long))
set_option maxRecDepth 20000 in
theorem mk_X9_quarrels : Mk m_X9_quarrels 4 := ⟨by decide +kernel, ⟨by decide +kernel, by decide +kernel⟩, by decide +kernel, by decide, wG_of (List.mem_append_right _ (List.mem_of_getElem? (i := 1569) (by decide +kernel))) rfl, wG_of (List.mem_append_right _ (List.mem_of_getElem? (i := 6) (by decide +kernel))) rfl⟩
set_option maxRecDepth 20000 in
theorem im_X9_quarrels : Cond.instanceMethod yX9_quarrels ∈ wG := wG_of (List.mem_append_right _ (List.mem_of_getElem? (i := 1567) (by decide +kernel))) rfl
set_option maxRecDepth 20000 in
theorem se_X9_quarrels : Cond.selects RX9 yX9_quarrels yX9_quarrels ∈ wG := wG_of (List.mem_append_right _ (List.mem_of_getElem? (i := 1568) (by decide +kernel))) rfl
abbrev m_X9_rankHere : Mi := (yX9_rankHere, cX9_rankHere, 1, some (.int))
set_option maxRecDepth 20000 in
theorem mk_X9_rankHere : Mk m_X9_rankHere 0 := ⟨by decide +kernel, ⟨by decide +kernel, by decide +kernel⟩, by decide +kernel, by decide, wG_of (List.mem_append_right _ (List.mem_of_getElem? (i := 1343) (by decide +kernel))) rfl, wG_of (List.mem_append_right _ (List.mem_of_getElem? (i := 6) (by decide +kernel))) rfl⟩
set_option maxRecDepth 20000 in
theorem im_X9_rankHere : Cond.instanceMethod yX9_rankHere ∈ wG := wG_of (List.mem_append_right _ (List.mem_of_getElem? (i := 1342) (by decide +kernel))) rfl
set_option maxRecDepth 20000 in
theorem se_X9_rankHere : Cond.selects RX9 yX9_rankHere yX9_rankHere ∈ wG := wG_of (List.mem_append_left _ (List.mem_of_getElem? (i := 70) (by decide +kernel))) rfl
abbrev m_X9_readCounts : Mi := (yX9_readCounts, cX9_readCounts, 3, none)
set_option maxRecDepth 20000 in
theorem mk_X9_readCounts : Mk m_X9_readCounts 0 := ⟨by decide +kernel, ⟨by decide +kernel, by decide +kernel⟩, by decide +kernel, by decide, wG_of (List.mem_append_right _ (List.mem_of_getElem? (i := 1282) (by decide +kernel))) rfl, wG_of (List.mem_append_right _ (List.mem_of_getElem? (i := 6) (by decide +kernel))) rfl⟩
set_option maxRecDepth 20000 in
theorem im_X9_readCounts : Cond.instanceMethod yX9_readCounts ∈ wG := wG_of (List.mem_append_right _ (List.mem_of_getElem? (i := 1281) (by decide +kernel))) rfl
set_option maxRecDepth 20000 in
theorem se_X9_readCounts : Cond.selects RX9 yX9_readCounts yX9_readCounts ∈ wG := wG_of (List.mem_append_left _ (List.mem_of_getElem? (i := 58) (by decide +kernel))) rfl
abbrev m_X9_readEmpty : Mi := (yX9_readEmpty, cX9_readEmpty, 1, none)
set_option maxRecDepth 20000 in
theorem mk_X9_readEmpty : Mk m_X9_readEmpty 0 := ⟨by decide +kernel, ⟨by decide +kernel, by decide +kernel⟩, by decide +kernel, by decide, wG_of (List.mem_append_right _ (List.mem_of_getElem? (i := 1353) (by decide +kernel))) rfl, wG_of (List.mem_append_right _ (List.mem_of_getElem? (i := 6) (by decide +kernel))) rfl⟩
set_option maxRecDepth 20000 in
theorem im_X9_readEmpty : Cond.instanceMethod yX9_readEmpty ∈ wG := wG_of (List.mem_append_right _ (List.mem_of_getElem? (i := 1352) (by decide +kernel))) rfl
set_option maxRecDepth 20000 in
theorem se_X9_readEmpty : Cond.selects RX9 yX9_readEmpty yX9_readEmpty ∈ wG := wG_of (List.mem_append_left _ (List.mem_of_getElem? (i := 72) (by decide +kernel))) rfl
abbrev m_X9_readLine : Mi := (yX9_readLine, cX9_readLine, 5, none)
set_option maxRecDepth 20000 in
theorem mk_X9_readLine : Mk m_X9_readLine 0 := ⟨by decide +kernel, ⟨by decide +kernel, by decide +kernel⟩, by decide +kernel, by decide, wG_of (List.mem_append_right _ (List.mem_of_getElem? (i := 1253) (by decide +kernel))) rfl, wG_of (List.mem_append_right _ (List.mem_of_getElem? (i := 6) (by decide +kernel))) rfl⟩
set_option maxRecDepth 20000 in
theorem im_X9_readLine : Cond.instanceMethod yX9_readLine ∈ wG := wG_of (List.mem_append_right _ (List.mem_of_getElem? (i := 1252) (by decide +kernel))) rfl
set_option maxRecDepth 20000 in
theorem se_X9_readLine : Cond.selects RX9 yX9_readLine yX9_readLine ∈ wG := wG_of (List.mem_append_left _ (List.mem_of_getElem? (i := 53) (by decide +kernel))) rfl
abbrev m_X9_readNumber : Mi := (yX9_readNumber, cX9_readNumber, 4, none)
set_option maxRecDepth 20000 in
theorem mk_X9_readNumber : Mk m_X9_readNumber 1 := ⟨by decide +kernel, ⟨by decide +kernel, by decide +kernel⟩, by decide +kernel, by decide, wG_of (List.mem_append_right _ (List.mem_of_getElem? (i := 1357) (by decide +kernel))) rfl, wG_of (List.mem_append_right _ (List.mem_of_getElem? (i := 6) (by decide +kernel))) rfl⟩
set_option maxRecDepth 20000 in
theorem im_X9_readNumber : Cond.instanceMethod yX9_readNumber ∈ wG := wG_of (List.mem_append_right _ (List.mem_of_getElem? (i := 1356) (by decide +kernel))) rfl
set_option maxRecDepth 20000 in
theorem se_X9_readNumber : Cond.selects RX9 yX9_readNumber yX9_readNumber ∈ wG := wG_of (List.mem_append_left _ (List.mem_of_getElem? (i := 73) (by decide +kernel))) rfl
abbrev m_X9_readWhen : Mi := (yX9_readWhen, cX9_readWhen, 2, none)
set_option maxRecDepth 20000 in
theorem mk_X9_readWhen : Mk m_X9_readWhen 1 := ⟨by decide +kernel, ⟨by decide +kernel, by decide +kernel⟩, by decide +kernel, by decide, wG_of (List.mem_append_right _ (List.mem_of_getElem? (i := 1303) (by decide +kernel))) rfl, wG_of (List.mem_append_right _ (List.mem_of_getElem? (i := 6) (by decide +kernel))) rfl⟩
set_option maxRecDepth 20000 in
theorem im_X9_readWhen : Cond.instanceMethod yX9_readWhen ∈ wG := wG_of (List.mem_append_right _ (List.mem_of_getElem? (i := 1302) (by decide +kernel))) rfl
set_option maxRecDepth 20000 in
theorem se_X9_readWhen : Cond.selects RX9 yX9_readWhen yX9_readWhen ∈ wG := wG_of (List.mem_append_left _ (List.mem_of_getElem? (i := 62) (by decide +kernel))) rfl
abbrev m_X9_reckon : Mi := (yX9_reckon, cX9_reckon, 8, none)
set_option maxRecDepth 20000 in
theorem mk_X9_reckon : Mk m_X9_reckon 4 := ⟨by decide +kernel, ⟨by decide +kernel, by decide +kernel⟩, by decide +kernel, by decide, wG_of (List.mem_append_right _ (List.mem_of_getElem? (i := 1475) (by decide +kernel))) rfl, wG_of (List.mem_append_right _ (List.mem_of_getElem? (i := 6) (by decide +kernel))) rfl⟩
set_option maxRecDepth 20000 in
theorem im_X9_reckon : Cond.instanceMethod yX9_reckon ∈ wG := wG_of (List.mem_append_right _ (List.mem_of_getElem? (i := 1474) (by decide +kernel))) rfl
set_option maxRecDepth 20000 in
theorem se_X9_reckon : Cond.selects RX9 yX9_reckon yX9_reckon ∈ wG := wG_of (List.mem_append_left _ (List.mem_of_getElem? (i := 86) (by decide +kernel))) rfl
abbrev m_X9_seek : Mi := (yX9_seek, cX9_seek, 8, some (.boolean))
set_option maxRecDepth 20000 in
theorem mk_X9_seek : Mk m_X9_seek 4 := ⟨by decide +kernel, ⟨by decide +kernel, by decide +kernel⟩, by decide +kernel, by decide, wG_of (List.mem_append_right _ (List.mem_of_getElem? (i := 1586) (by decide +kernel))) rfl, wG_of (List.mem_append_right _ (List.mem_of_getElem? (i := 6) (by decide +kernel))) rfl⟩
set_option maxRecDepth 20000 in
theorem im_X9_seek : Cond.instanceMethod yX9_seek ∈ wG := wG_of (List.mem_append_right _ (List.mem_of_getElem? (i := 1585) (by decide +kernel))) rfl
set_option maxRecDepth 20000 in
theorem se_X9_seek : Cond.selects RX9 yX9_seek yX9_seek ∈ wG := wG_of (List.mem_append_left _ (List.mem_of_getElem? (i := 101) (by decide +kernel))) rfl
abbrev m_X9_seekQuarrel : Mi := (yX9_seekQuarrel, cX9_seekQuarrel, 3, none)
set_option maxRecDepth 20000 in
theorem mk_X9_seekQuarrel : Mk m_X9_seekQuarrel 0 := ⟨by decide +kernel, ⟨by decide +kernel, by decide +kernel⟩, by decide +kernel, by decide, wG_of (List.mem_append_right _ (List.mem_of_getElem? (i := 1434) (by decide +kernel))) rfl, wG_of (List.mem_append_right _ (List.mem_of_getElem? (i := 6) (by decide +kernel))) rfl⟩
set_option maxRecDepth 20000 in
theorem im_X9_seekQuarrel : Cond.instanceMethod yX9_seekQuarrel ∈ wG := wG_of (List.mem_append_right _ (List.mem_of_getElem? (i := 1433) (by decide +kernel))) rfl
set_option maxRecDepth 20000 in
theorem se_X9_seekQuarrel : Cond.selects RX9 yX9_seekQuarrel yX9_seekQuarrel ∈ wG := wG_of (List.mem_append_left _ (List.mem_of_getElem? (i := 79) (by decide +kernel))) rfl
abbrev m_X9_settle : Mi := (yX9_settle, cX9_settle, 4, some (.int))
set_option maxRecDepth 20000 in
theorem mk_X9_settle : Mk m_X9_settle 3 := ⟨by decide +kernel, ⟨by decide +kernel, by decide +kernel⟩, by decide +kernel, by decide, wG_of (List.mem_append_right _ (List.mem_of_getElem? (i := 1405) (by decide +kernel))) rfl, wG_of (List.mem_append_right _ (List.mem_of_getElem? (i := 6) (by decide +kernel))) rfl⟩
set_option maxRecDepth 20000 in
theorem im_X9_settle : Cond.instanceMethod yX9_settle ∈ wG := wG_of (List.mem_append_right _ (List.mem_of_getElem? (i := 1403) (by decide +kernel))) rfl
set_option maxRecDepth 20000 in
theorem se_X9_settle : Cond.selects RX9 yX9_settle yX9_settle ∈ wG := wG_of (List.mem_append_right _ (List.mem_of_getElem? (i := 1404) (by decide +kernel))) rfl
abbrev m_X9_settledBy : Mi := (yX9_settledBy, cX9_settledBy, 6, some (.long))
set_option maxRecDepth 20000 in
theorem mk_X9_settledBy : Mk m_X9_settledBy 1 := ⟨by decide +kernel, ⟨by decide +kernel, by decide +kernel⟩, by decide +kernel, by decide, wG_of (List.mem_append_right _ (List.mem_of_getElem? (i := 1590) (by decide +kernel))) rfl, wG_of (List.mem_append_right _ (List.mem_of_getElem? (i := 6) (by decide +kernel))) rfl⟩
set_option maxRecDepth 20000 in
theorem im_X9_settledBy : Cond.instanceMethod yX9_settledBy ∈ wG := wG_of (List.mem_append_right _ (List.mem_of_getElem? (i := 1589) (by decide +kernel))) rfl
set_option maxRecDepth 20000 in
theorem se_X9_settledBy : Cond.selects RX9 yX9_settledBy yX9_settledBy ∈ wG := wG_of (List.mem_append_left _ (List.mem_of_getElem? (i := 102) (by decide +kernel))) rfl
abbrev m_X9_settles : Mi := (yX9_settles, cX9_settles, 5, some (.long))
set_option maxRecDepth 20000 in
theorem mk_X9_settles : Mk m_X9_settles 4 := ⟨by decide +kernel, ⟨by decide +kernel, by decide +kernel⟩, by decide +kernel, by decide, wG_of (List.mem_append_right _ (List.mem_of_getElem? (i := 1598) (by decide +kernel))) rfl, wG_of (List.mem_append_right _ (List.mem_of_getElem? (i := 6) (by decide +kernel))) rfl⟩
set_option maxRecDepth 20000 in
theorem im_X9_settles : Cond.instanceMethod yX9_settles ∈ wG := wG_of (List.mem_append_right _ (List.mem_of_getElem? (i := 1596) (by decide +kernel))) rfl
set_option maxRecDepth 20000 in
theorem se_X9_settles : Cond.selects RX9 yX9_settles yX9_settles ∈ wG := wG_of (List.mem_append_right _ (List.mem_of_getElem? (i := 1597) (by decide +kernel))) rfl
abbrev m_X9_sign : Mi := (yX9_sign, cX9_sign, 2, some (.int))
set_option maxRecDepth 20000 in
theorem mk_X9_sign : Mk m_X9_sign 1 := ⟨by decide +kernel, ⟨by decide +kernel, by decide +kernel⟩, by decide +kernel, by decide, wG_of (List.mem_append_right _ (List.mem_of_getElem? (i := 1236) (by decide +kernel))) rfl, wG_of (List.mem_append_right _ (List.mem_of_getElem? (i := 6) (by decide +kernel))) rfl⟩
set_option maxRecDepth 20000 in
theorem im_X9_sign : Cond.instanceMethod yX9_sign ∈ wG := wG_of (List.mem_append_right _ (List.mem_of_getElem? (i := 1235) (by decide +kernel))) rfl
set_option maxRecDepth 20000 in
theorem se_X9_sign : Cond.selects RX9 yX9_sign yX9_sign ∈ wG := wG_of (List.mem_append_left _ (List.mem_of_getElem? (i := 51) (by decide +kernel))) rfl
abbrev m_X9_span : Mi := (yX9_span, cX9_span, 5, some (.int))
set_option maxRecDepth 20000 in
theorem mk_X9_span : Mk m_X9_span 4 := ⟨by decide +kernel, ⟨by decide +kernel, by decide +kernel⟩, by decide +kernel, by decide, wG_of (List.mem_append_right _ (List.mem_of_getElem? (i := 1422) (by decide +kernel))) rfl, wG_of (List.mem_append_right _ (List.mem_of_getElem? (i := 6) (by decide +kernel))) rfl⟩
set_option maxRecDepth 20000 in
theorem im_X9_span : Cond.instanceMethod yX9_span ∈ wG := wG_of (List.mem_append_right _ (List.mem_of_getElem? (i := 1420) (by decide +kernel))) rfl
set_option maxRecDepth 20000 in
theorem se_X9_span : Cond.selects RX9 yX9_span yX9_span ∈ wG := wG_of (List.mem_append_right _ (List.mem_of_getElem? (i := 1421) (by decide +kernel))) rfl
abbrev m_X9_spread : Mi := (yX9_spread, cX9_spread, 3, none)
set_option maxRecDepth 20000 in
theorem mk_X9_spread : Mk m_X9_spread 2 := ⟨by decide +kernel, ⟨by decide +kernel, by decide +kernel⟩, by decide +kernel, by decide, wG_of (List.mem_append_right _ (List.mem_of_getElem? (i := 1459) (by decide +kernel))) rfl, wG_of (List.mem_append_right _ (List.mem_of_getElem? (i := 6) (by decide +kernel))) rfl⟩
set_option maxRecDepth 20000 in
theorem im_X9_spread : Cond.instanceMethod yX9_spread ∈ wG := wG_of (List.mem_append_right _ (List.mem_of_getElem? (i := 1458) (by decide +kernel))) rfl
set_option maxRecDepth 20000 in
theorem se_X9_spread : Cond.selects RX9 yX9_spread yX9_spread ∈ wG := wG_of (List.mem_append_left _ (List.mem_of_getElem? (i := 84) (by decide +kernel))) rfl
abbrev m_X9_step : Mi := (yX9_step, cX9_step, 3, none)
set_option maxRecDepth 20000 in
theorem mk_X9_step : Mk m_X9_step 2 := ⟨by decide +kernel, ⟨by decide +kernel, by decide +kernel⟩, by decide +kernel, by decide, wG_of (List.mem_append_right _ (List.mem_of_getElem? (i := 1335) (by decide +kernel))) rfl, wG_of (List.mem_append_right _ (List.mem_of_getElem? (i := 6) (by decide +kernel))) rfl⟩
set_option maxRecDepth 20000 in
theorem im_X9_step : Cond.instanceMethod yX9_step ∈ wG := wG_of (List.mem_append_right _ (List.mem_of_getElem? (i := 1334) (by decide +kernel))) rfl
set_option maxRecDepth 20000 in
theorem se_X9_step : Cond.selects RX9 yX9_step yX9_step ∈ wG := wG_of (List.mem_append_left _ (List.mem_of_getElem? (i := 68) (by decide +kernel))) rfl
abbrev m_X9_term : Mi := (yX9_term, cX9_term, 4, some (.int))
set_option maxRecDepth 20000 in
theorem mk_X9_term : Mk m_X9_term 3 := ⟨by decide +kernel, ⟨by decide +kernel, by decide +kernel⟩, by decide +kernel, by decide, wG_of (List.mem_append_right _ (List.mem_of_getElem? (i := 1483) (by decide +kernel))) rfl, wG_of (List.mem_append_right _ (List.mem_of_getElem? (i := 6) (by decide +kernel))) rfl⟩
set_option maxRecDepth 20000 in
theorem im_X9_term : Cond.instanceMethod yX9_term ∈ wG := wG_of (List.mem_append_right _ (List.mem_of_getElem? (i := 1482) (by decide +kernel))) rfl
set_option maxRecDepth 20000 in
theorem se_X9_term : Cond.selects RX9 yX9_term yX9_term ∈ wG := wG_of (List.mem_append_left _ (List.mem_of_getElem? (i := 88) (by decide +kernel))) rfl
abbrev m_X9_tests : Mi := (yX9_tests, cX9_tests, 5, some (.int))
set_option maxRecDepth 20000 in
theorem mk_X9_tests : Mk m_X9_tests 4 := ⟨by decide +kernel, ⟨by decide +kernel, by decide +kernel⟩, by decide +kernel, by decide, wG_of (List.mem_append_right _ (List.mem_of_getElem? (i := 1582) (by decide +kernel))) rfl, wG_of (List.mem_append_right _ (List.mem_of_getElem? (i := 6) (by decide +kernel))) rfl⟩
set_option maxRecDepth 20000 in
theorem im_X9_tests : Cond.instanceMethod yX9_tests ∈ wG := wG_of (List.mem_append_right _ (List.mem_of_getElem? (i := 1580) (by decide +kernel))) rfl
set_option maxRecDepth 20000 in
theorem se_X9_tests : Cond.selects RX9 yX9_tests yX9_tests ∈ wG := wG_of (List.mem_append_right _ (List.mem_of_getElem? (i := 1581) (by decide +kernel))) rfl
abbrev m_X9_totalOf : Mi := (yX9_totalOf, cX9_totalOf, 4, some (.int))
set_option maxRecDepth 20000 in
theorem mk_X9_totalOf : Mk m_X9_totalOf 1 := ⟨by decide +kernel, ⟨by decide +kernel, by decide +kernel⟩, by decide +kernel, by decide, wG_of (List.mem_append_right _ (List.mem_of_getElem? (i := 1449) (by decide +kernel))) rfl, wG_of (List.mem_append_right _ (List.mem_of_getElem? (i := 6) (by decide +kernel))) rfl⟩
set_option maxRecDepth 20000 in
theorem im_X9_totalOf : Cond.instanceMethod yX9_totalOf ∈ wG := wG_of (List.mem_append_right _ (List.mem_of_getElem? (i := 1448) (by decide +kernel))) rfl
set_option maxRecDepth 20000 in
theorem se_X9_totalOf : Cond.selects RX9 yX9_totalOf yX9_totalOf ∈ wG := wG_of (List.mem_append_left _ (List.mem_of_getElem? (i := 82) (by decide +kernel))) rfl
abbrev m_X9_two : Mi := (yX9_two, cX9_two, 3, some (.int))
set_option maxRecDepth 20000 in
theorem mk_X9_two : Mk m_X9_two 3 := ⟨by decide +kernel, ⟨by decide +kernel, by decide +kernel⟩, by decide +kernel, by decide, wG_of (List.mem_append_right _ (List.mem_of_getElem? (i := 1490) (by decide +kernel))) rfl, wG_of (List.mem_append_right _ (List.mem_of_getElem? (i := 6) (by decide +kernel))) rfl⟩
set_option maxRecDepth 20000 in
theorem st_X9_two : Cond.static yX9_two ∈ wG := wG_of (List.mem_append_right _ (List.mem_of_getElem? (i := 1489) (by decide +kernel))) rfl
abbrev m_X9_unit : Mi := (yX9_unit, cX9_unit, 6, some (.boolean))
set_option maxRecDepth 20000 in
theorem mk_X9_unit : Mk m_X9_unit 0 := ⟨by decide +kernel, ⟨by decide +kernel, by decide +kernel⟩, by decide +kernel, by decide, wG_of (List.mem_append_right _ (List.mem_of_getElem? (i := 1316) (by decide +kernel))) rfl, wG_of (List.mem_append_right _ (List.mem_of_getElem? (i := 6) (by decide +kernel))) rfl⟩
set_option maxRecDepth 20000 in
theorem im_X9_unit : Cond.instanceMethod yX9_unit ∈ wG := wG_of (List.mem_append_right _ (List.mem_of_getElem? (i := 1315) (by decide +kernel))) rfl
set_option maxRecDepth 20000 in
theorem se_X9_unit : Cond.selects RX9 yX9_unit yX9_unit ∈ wG := wG_of (List.mem_append_left _ (List.mem_of_getElem? (i := 65) (by decide +kernel))) rfl
abbrev m_X9_untell : Mi := (yX9_untell, cX9_untell, 2, some (.boolean))
set_option maxRecDepth 20000 in
theorem mk_X9_untell : Mk m_X9_untell 1 := ⟨by decide +kernel, ⟨by decide +kernel, by decide +kernel⟩, by decide +kernel, by decide, wG_of (List.mem_append_right _ (List.mem_of_getElem? (i := 1413) (by decide +kernel))) rfl, wG_of (List.mem_append_right _ (List.mem_of_getElem? (i := 6) (by decide +kernel))) rfl⟩
set_option maxRecDepth 20000 in
theorem im_X9_untell : Cond.instanceMethod yX9_untell ∈ wG := wG_of (List.mem_append_right _ (List.mem_of_getElem? (i := 1411) (by decide +kernel))) rfl
set_option maxRecDepth 20000 in
theorem se_X9_untell : Cond.selects RX9 yX9_untell yX9_untell ∈ wG := wG_of (List.mem_append_right _ (List.mem_of_getElem? (i := 1412) (by decide +kernel))) rfl
abbrev m_X9_weeks : Mi := (yX9_weeks, cX9_weeks, 5, some (.int))
set_option maxRecDepth 20000 in
theorem mk_X9_weeks : Mk m_X9_weeks 4 := ⟨by decide +kernel, ⟨by decide +kernel, by decide +kernel⟩, by decide +kernel, by decide, wG_of (List.mem_append_right _ (List.mem_of_getElem? (i := 1514) (by decide +kernel))) rfl, wG_of (List.mem_append_right _ (List.mem_of_getElem? (i := 6) (by decide +kernel))) rfl⟩
set_option maxRecDepth 20000 in
theorem im_X9_weeks : Cond.instanceMethod yX9_weeks ∈ wG := wG_of (List.mem_append_right _ (List.mem_of_getElem? (i := 1512) (by decide +kernel))) rfl
set_option maxRecDepth 20000 in
theorem se_X9_weeks : Cond.selects RX9 yX9_weeks yX9_weeks ∈ wG := wG_of (List.mem_append_right _ (List.mem_of_getElem? (i := 1513) (by decide +kernel))) rfl
abbrev m_X9_withInterest : Mi := (yX9_withInterest, cX9_withInterest, 4, some (.long))
set_option maxRecDepth 20000 in
theorem mk_X9_withInterest : Mk m_X9_withInterest 3 := ⟨by decide +kernel, ⟨by decide +kernel, by decide +kernel⟩, by decide +kernel, by decide, wG_of (List.mem_append_right _ (List.mem_of_getElem? (i := 1556) (by decide +kernel))) rfl, wG_of (List.mem_append_right _ (List.mem_of_getElem? (i := 6) (by decide +kernel))) rfl⟩
set_option maxRecDepth 20000 in
theorem im_X9_withInterest : Cond.instanceMethod yX9_withInterest ∈ wG := wG_of (List.mem_append_right _ (List.mem_of_getElem? (i := 1555) (by decide +kernel))) rfl
set_option maxRecDepth 20000 in
theorem se_X9_withInterest : Cond.selects RX9 yX9_withInterest yX9_withInterest ∈ wG := wG_of (List.mem_append_left _ (List.mem_of_getElem? (i := 98) (by decide +kernel))) rfl
abbrev m_X9_wordHere : Mi := (yX9_wordHere, cX9_wordHere, 1, some (.int))
set_option maxRecDepth 20000 in
theorem mk_X9_wordHere : Mk m_X9_wordHere 0 := ⟨by decide +kernel, ⟨by decide +kernel, by decide +kernel⟩, by decide +kernel, by decide, wG_of (List.mem_append_right _ (List.mem_of_getElem? (i := 1325) (by decide +kernel))) rfl, wG_of (List.mem_append_right _ (List.mem_of_getElem? (i := 6) (by decide +kernel))) rfl⟩
set_option maxRecDepth 20000 in
theorem im_X9_wordHere : Cond.instanceMethod yX9_wordHere ∈ wG := wG_of (List.mem_append_right _ (List.mem_of_getElem? (i := 1324) (by decide +kernel))) rfl
set_option maxRecDepth 20000 in
theorem se_X9_wordHere : Cond.selects RX9 yX9_wordHere yX9_wordHere ∈ wG := wG_of (List.mem_append_left _ (List.mem_of_getElem? (i := 67) (by decide +kernel))) rfl
abbrev m_X9_worker : Mi := (yX9_worker, cX9_worker, 3, some (.int))
set_option maxRecDepth 20000 in
theorem mk_X9_worker : Mk m_X9_worker 2 := ⟨by decide +kernel, ⟨by decide +kernel, by decide +kernel⟩, by decide +kernel, by decide, wG_of (List.mem_append_right _ (List.mem_of_getElem? (i := 1369) (by decide +kernel))) rfl, wG_of (List.mem_append_right _ (List.mem_of_getElem? (i := 6) (by decide +kernel))) rfl⟩
set_option maxRecDepth 20000 in
theorem im_X9_worker : Cond.instanceMethod yX9_worker ∈ wG := wG_of (List.mem_append_right _ (List.mem_of_getElem? (i := 1367) (by decide +kernel))) rfl
set_option maxRecDepth 20000 in
theorem se_X9_worker : Cond.selects RX9 yX9_worker yX9_worker ∈ wG := wG_of (List.mem_append_right _ (List.mem_of_getElem? (i := 1368) (by decide +kernel))) rfl
abbrev m_X9_wrong : Mi := (yX9_wrong, cX9_wrong, 1, none)
set_option maxRecDepth 20000 in
theorem mk_X9_wrong : Mk m_X9_wrong 0 := ⟨by decide +kernel, ⟨by decide +kernel, by decide +kernel⟩, by decide +kernel, by decide, wG_of (List.mem_append_right _ (List.mem_of_getElem? (i := 1274) (by decide +kernel))) rfl, wG_of (List.mem_append_right _ (List.mem_of_getElem? (i := 6) (by decide +kernel))) rfl⟩
set_option maxRecDepth 20000 in
theorem im_X9_wrong : Cond.instanceMethod yX9_wrong ∈ wG := wG_of (List.mem_append_right _ (List.mem_of_getElem? (i := 1273) (by decide +kernel))) rfl
set_option maxRecDepth 20000 in
theorem se_X9_wrong : Cond.selects RX9 yX9_wrong yX9_wrong ∈ wG := wG_of (List.mem_append_left _ (List.mem_of_getElem? (i := 56) (by decide +kernel))) rfl
