/-! ===== the tables' facts, by program ===== -/
theorem inB_ix {ws : List Cond} (is : List Nat) (h : ws.map some = is.map (fun i => lw_tbl[i]?)) (hg : ws.all goodWord = true) : ∀ w ∈ ws, w ∈ BIG := by
  intro w hw
  have h1 : some w ∈ is.map (fun i => lw_tbl[i]?) := by rw [← h]; exact List.mem_map_of_mem hw
  obtain ⟨i, -, hi⟩ := List.mem_map.mp h1
  exact inB i hi (List.all_eq_true.mp hg w hw)
abbrev mX9_init : MI := (yX9_init, cX9_init, 1, none, [])
abbrev mX7_init : MI := (yX7_init, cX7_init, 1, none, [])
abbrev mJ4_init_da8c8 : MI := (yJ4_init_da8c8, cJ4_init_da8c8, 1, none, [])
abbrev mJ5_init_d00df : MI := (yJ5_init_d00df, cJ5_init_d00df, 2, none, [])
abbrev mJ2_newBytesFor_77867 : MI := (yJ2_newBytesFor_77867, cJ2_newBytesFor_77867, 1, (some (.array .byte)), [])
abbrev mJ2_newBytesLength_0f7a4 : MI := (yJ2_newBytesLength_0f7a4, cJ2_newBytesLength_0f7a4, 1, (some .int), [])
abbrev mX5_init : MI := (yX5_init, cX5_init, 1, none, [])
abbrev mX6_init : MI := (yX6_init, cX6_init, 3, none, [])
abbrev mX6_leavesOf : MI := (yX6_leavesOf, cX6_leavesOf, 5, (some (.array .int)), [])
abbrev mX1_isGroup : MI := (yX1_isGroup, cX1_isGroup, 1, (some .boolean), [])
abbrev mJ0_isEmpty_aae02 : MI := (yJ0_isEmpty_aae02, cJ0_isEmpty_aae02, 1, (some .boolean), [])
abbrev mX6_rootSetOf : MI := (yX6_rootSetOf, cX6_rootSetOf, 3, (some .int), [])
abbrev mJ9_min_7cf53 : MI := (yJ9_min_7cf53, cJ9_min_7cf53, 2, (some .int), [])
abbrev mX6_metBlocks : MI := (yX6_metBlocks, cX6_metBlocks, 5, (some .int), [])
abbrev mX9_isInSet : MI := (yX9_isInSet, cX9_isInSet, 2, (some .boolean), [])
abbrev mX6_metParts : MI := (yX6_metParts, cX6_metParts, 5, (some .int), [])
abbrev mJ6_bitCount_0f7a4 : MI := (yJ6_bitCount_0f7a4, cJ6_bitCount_0f7a4, 1, (some .int), [])
abbrev mX3_init : MI := (yX3_init, cX3_init, 5, none, [])
abbrev mX0_init : MI := (yX0_init, cX0_init, 2, none, [])
abbrev mX8_init : MI := (yX8_init, cX8_init, 1, none, [])
abbrev mX9_faultPosition : MI := (yX9_faultPosition, cX9_faultPosition, 1, (some .int), [])
abbrev mX9_isComplete : MI := (yX9_isComplete, cX9_isComplete, 2, (some .boolean), [])
abbrev mX6_rootCount : MI := (yX6_rootCount, cX6_rootCount, 1, (some .int), [])
abbrev mX9_bestUse : MI := (yX9_bestUse, cX9_bestUse, 1, (some (.object "CreditTransfer$BestUse")), [])
abbrev mX0_findFor : MI := (yX0_findFor, cX0_findFor, 3, none, [])
abbrev mX0_leavesFor : MI := (yX0_leavesFor, cX0_leavesFor, 4, (some .int), [])
abbrev mX1_takes : MI := (yX1_takes, cX1_takes, 3, (some .boolean), [])
abbrev mX1_names : MI := (yX1_names, cX1_names, 2, (some .boolean), [])
abbrev mJ0_indexOf_0f7a4 : MI := (yJ0_indexOf_0f7a4, cJ0_indexOf_0f7a4, 2, (some .int), [])
abbrev mJ0_indexOf_7cf53 : MI := (yJ0_indexOf_7cf53, cJ0_indexOf_7cf53, 3, (some .int), [])
abbrev mJ0_isLatin1_aae02 : MI := (yJ0_isLatin1_aae02, cJ0_isLatin1_aae02, 1, (some .boolean), [])
abbrev mJ0_length_8abf5 : MI := (yJ0_length_8abf5, cJ0_length_8abf5, 1, (some .int), [])
abbrev mJ0_coder_7d493 : MI := (yJ0_coder_7d493, cJ0_coder_7d493, 1, (some .byte), [])
abbrev mJ1_indexOf_4cfef : MI := (yJ1_indexOf_4cfef, cJ1_indexOf_4cfef, 4, (some .int), [])
abbrev mJ1_canEncode_9a6ad : MI := (yJ1_canEncode_9a6ad, cJ1_canEncode_9a6ad, 1, (some .boolean), [])
abbrev mJ9_max_7cf53 : MI := (yJ9_max_7cf53, cJ9_max_7cf53, 2, (some .int), [])
abbrev mJ1_indexOfChar_4cfef : MI := (yJ1_indexOfChar_4cfef, cJ1_indexOfChar_4cfef, 6, (some .int), [])
abbrev mJ2_indexOf_4cfef : MI := (yJ2_indexOf_4cfef, cJ2_indexOf_4cfef, 4, (some .int), [])
abbrev mJ2_indexOfChar_4cfef : MI := (yJ2_indexOfChar_4cfef, cJ2_indexOfChar_4cfef, 4, (some .int), [])
abbrev mJ2_checkBoundsBeginEnd_d044e : MI := (yJ2_checkBoundsBeginEnd_d044e, cJ2_checkBoundsBeginEnd_d044e, 3, none, [])
abbrev mJ2_length_9d52b : MI := (yJ2_length_9d52b, cJ2_length_9d52b, 1, (some .int), [])
abbrev mJ0_checkBoundsBeginEnd_23922 : MI := (yJ0_checkBoundsBeginEnd_23922, cJ0_checkBoundsBeginEnd_23922, 3, none, [])
abbrev mJ3_checkFromToIndex_8c36e : MI := (yJ3_checkFromToIndex_8c36e, cJ3_checkFromToIndex_8c36e, 4, (some .int), [])
abbrev mJ2_indexOfCharUnsafe_4cfef : MI := (yJ2_indexOfCharUnsafe_4cfef, cJ2_indexOfCharUnsafe_4cfef, 5, (some .int), [])
abbrev mJ2_getChar_3b067 : MI := (yJ2_getChar_3b067, cJ2_getChar_3b067, 2, (some .char), [])
abbrev mJ2_indexOfSupplementary_4cfef : MI := (yJ2_indexOfSupplementary_4cfef, cJ2_indexOfSupplementary_4cfef, 7, (some .int), [])
abbrev mJ11_isValidCodePoint_9a6ad : MI := (yJ11_isValidCodePoint_9a6ad, cJ11_isValidCodePoint_9a6ad, 2, (some .boolean), [])
abbrev mJ11_highSurrogate_5068e : MI := (yJ11_highSurrogate_5068e, cJ11_highSurrogate_5068e, 1, (some .char), [])
abbrev mJ11_lowSurrogate_5068e : MI := (yJ11_lowSurrogate_5068e, cJ11_lowSurrogate_5068e, 1, (some .char), [])
abbrev mX1_lastYearFor : MI := (yX1_lastYearFor, cX1_lastYearFor, 2, (some .int), [])
abbrev mX0_giveFrom : MI := (yX0_giveFrom, cX0_giveFrom, 4, none, [])
abbrev mX0_weigh : MI := (yX0_weigh, cX0_weigh, 6, none, [])
abbrev mX6_metRootsFor : MI := (yX6_metRootsFor, cX6_metRootsFor, 2, (some .int), [])
abbrev mX0_rootsMet : MI := (yX0_rootsMet, cX0_rootsMet, 1, (some .int), [])
abbrev mX9_year : MI := (yX9_year, cX9_year, 1, (some .int), [])
abbrev mX9_save : MI := (yX9_save, cX9_save, 1, none, [])
abbrev mL_addCredit : MI := (yL_addCredit, cL_addCredit, 7, (some .int), [(0, 14, 17, 13), (0, 14, 21, 15)])
abbrev mX9_addCredit : MI := (yX9_addCredit, cX9_addCredit, 5, (some .int), [])
abbrev mX9_isInRange : MI := (yX9_isInRange, cX9_isInRange, 5, (some .boolean), [])
abbrev mX9_isForeignLetter : MI := (yX9_isForeignLetter, cX9_isForeignLetter, 1, (some .boolean), [])
abbrev mX9_isOwnLetter : MI := (yX9_isOwnLetter, cX9_isOwnLetter, 1, (some .boolean), [])
abbrev mX2_init : MI := (yX2_init, cX2_init, 5, none, [])
abbrev mX3_withCredit : MI := (yX3_withCredit, cX3_withCredit, 4, (some (.object "CreditTransfer$Desk")), [])
abbrev mX9_changeTo : MI := (yX9_changeTo, cX9_changeTo, 2, none, [])
abbrev mX5_keep : MI := (yX5_keep, cX5_keep, 3, none, [])
abbrev mL_dropCredit : MI := (yL_dropCredit, cL_dropCredit, 4, (some .int), [(0, 9, 12, 21)])
abbrev mJx00060_init_a7421 : MI := (yJx00060_init_a7421, cJx00060_init_a7421, 2, none, [])
abbrev mX9_dropCredit : MI := (yX9_dropCredit, cX9_dropCredit, 2, (some .int), [])
abbrev mX9_hasCredit : MI := (yX9_hasCredit, cX9_hasCredit, 2, (some .boolean), [])
abbrev mX3_withoutCredit : MI := (yX3_withoutCredit, cX3_withoutCredit, 4, (some (.object "CreditTransfer$Desk")), [])
abbrev mL_credit : MI := (yL_credit, cL_credit, 5, (some .int), [(0, 10, 13, 21), (0, 10, 17, 13)])
abbrev mX9_credit : MI := (yX9_credit, cX9_credit, 4, (some .int), [])
abbrev mX0_takerOf : MI := (yX0_takerOf, cX0_takerOf, 3, (some .int), [])
abbrev mX3_acceptingSet : MI := (yX3_acceptingSet, cX3_acceptingSet, 4, (some .int), [])
abbrev mL_code : MI := (yL_code, cL_code, 4, (some .int), [(0, 9, 12, 21)])
abbrev mX9_code : MI := (yX9_code, cX9_code, 2, (some .char), [])
abbrev mL_expires : MI := (yL_expires, cL_expires, 5, (some .int), [(0, 10, 13, 21), (0, 10, 17, 34)])
abbrev mX9_expires : MI := (yX9_expires, cX9_expires, 4, (some .int), [])
abbrev mX9_hasBlock : MI := (yX9_hasBlock, cX9_hasBlock, 2, (some .boolean), [])
abbrev mL_addEquivalence : MI := (yL_addEquivalence, cL_addEquivalence, 7, (some .int), [(0, 14, 17, 13), (0, 14, 21, 34)])
abbrev mX9_addEquivalence : MI := (yX9_addEquivalence, cX9_addEquivalence, 5, (some .int), [])
abbrev mX9_areForeignLetters : MI := (yX9_areForeignLetters, cX9_areForeignLetters, 2, (some .boolean), [])
abbrev mX9_areOwnLetters : MI := (yX9_areOwnLetters, cX9_areOwnLetters, 2, (some .boolean), [])
abbrev mX4_init : MI := (yX4_init, cX4_init, 5, none, [])
abbrev mX3_withEquivalence : MI := (yX3_withEquivalence, cX3_withEquivalence, 4, (some (.object "CreditTransfer$Desk")), [])
abbrev mL_equivalent : MI := (yL_equivalent, cL_equivalent, 5, (some .int), [(0, 10, 13, 21), (0, 10, 17, 13)])
abbrev mX9_equivalent : MI := (yX9_equivalent, cX9_equivalent, 4, (some .char), [])
abbrev mX9_hasEquivalence : MI := (yX9_hasEquivalence, cX9_hasEquivalence, 2, (some .boolean), [])
abbrev mL_apply : MI := (yL_apply, cL_apply, 4, (some .int), [(0, 9, 12, 21), (0, 9, 15, 15)])
abbrev mX9_apply : MI := (yX9_apply, cX9_apply, 4, (some .int), [])
abbrev mX3_reasonAgainst : MI := (yX3_reasonAgainst, cX3_reasonAgainst, 2, (some .int), [])
abbrev mX3_goingSet : MI := (yX3_goingSet, cX3_goingSet, 2, (some .int), [])
abbrev mX3_takenFor : MI := (yX3_takenFor, cX3_takenFor, 6, (some .int), [])
abbrev mX3_singleton : MI := (yX3_singleton, cX3_singleton, 1, (some .int), [])
abbrev mX4_goingCount : MI := (yX4_goingCount, cX4_goingCount, 1, (some .int), [])
abbrev mX4_comingCount : MI := (yX4_comingCount, cX4_comingCount, 1, (some .int), [])
abbrev mX3_after : MI := (yX3_after, cX3_after, 8, (some (.object "CreditTransfer$Desk")), [])
abbrev mL_rootsBy : MI := (yL_rootsBy, cL_rootsBy, 4, (some .int), [(0, 9, 12, 21), (0, 9, 15, 50)])
abbrev mX9_rootsBy : MI := (yX9_rootsBy, cX9_rootsBy, 3, (some .int), [])
abbrev mX9_rootsAfter : MI := (yX9_rootsAfter, cX9_rootsAfter, 2, (some .int), [])
abbrev mX9_rootsIn : MI := (yX9_rootsIn, cX9_rootsIn, 2, (some .int), [])
abbrev mL_bestEquivalence : MI := (yL_bestEquivalence, cL_bestEquivalence, 3, (some .int), [(0, 8, 11, 50)])
abbrev mX9_bestEquivalence : MI := (yX9_bestEquivalence, cX9_bestEquivalence, 5, (some .int), [])
abbrev mL_append : MI := (yL_append, cL_append, 3, (some .int), [(0, 5, 8, 34)])
abbrev mX9_append : MI := (yX9_append, cX9_append, 2, none, [])
abbrev mX7_isFull : MI := (yX7_isFull, cX7_isFull, 1, (some .boolean), [])
abbrev mX7_put : MI := (yX7_put, cX7_put, 2, none, [])
abbrev mL_readProgram : MI := (yL_readProgram, cL_readProgram, 3, (some .int), [(0, 8, 11, 13), (0, 8, 14, 15)])
abbrev mX9_readProgram : MI := (yX9_readProgram, cX9_readProgram, 3, (some .int), [])
abbrev mX7_readText : MI := (yX7_readText, cX7_readText, 2, (some .int), [])
abbrev mX7_readBlocks : MI := (yX7_readBlocks, cX7_readBlocks, 2, (some .boolean), [])
abbrev mX7_readOpenings : MI := (yX7_readOpenings, cX7_readOpenings, 4, (some .boolean), [])
abbrev mX7_sign : MI := (yX7_sign, cX7_sign, 1, (some .char), [])
abbrev mX7_take : MI := (yX7_take, cX7_take, 2, (some .boolean), [])
abbrev mX7_addBlock : MI := (yX7_addBlock, cX7_addBlock, 5, none, [])
abbrev mX7_innermostGroup : MI := (yX7_innermostGroup, cX7_innermostGroup, 1, (some .int), [])
abbrev mX1_init : MI := (yX1_init, cX1_init, 7, none, [])
abbrev mX7_readLeaf : MI := (yX7_readLeaf, cX7_readLeaf, 5, (some .boolean), [])
abbrev mX7_readLetters : MI := (yX7_readLetters, cX7_readLetters, 2, (some (.object "java/lang/String")), [])
abbrev mJ4_setLength_d00df : MI := (yJ4_setLength_d00df, cJ4_setLength_d00df, 2, none, [])
abbrev mJ5_setLength_d00df : MI := (yJ5_setLength_d00df, cJ5_setLength_d00df, 2, none, [])
abbrev mJx7c733_init_d00df : MI := (yJx7c733_init_d00df, cJx7c733_init_d00df, 2, none, [])
abbrev mJ4_append_15ec4 : MI := (yJ4_append_15ec4, cJ4_append_15ec4, 2, (some (.object "java/lang/StringBuilder")), [])
abbrev mJ5_append_cf1ce : MI := (yJ5_append_cf1ce, cJ5_append_cf1ce, 3, (some (.object "java/lang/AbstractStringBuilder")), [])
abbrev mJ5_appendNull_278bc : MI := (yJ5_appendNull_278bc, cJ5_appendNull_278bc, 3, (some (.object "java/lang/AbstractStringBuilder")), [])
abbrev mJ5_ensureCapacityInternal_d00df : MI := (yJ5_ensureCapacityInternal_d00df, cJ5_ensureCapacityInternal_d00df, 3, none, [])
abbrev mJ5_newCapacity_0f7a4 : MI := (yJ5_newCapacity_0f7a4, cJ5_newCapacity_0f7a4, 6, (some .int), [])
abbrev mJ8_newLength_cabcc : MI := (yJ8_newLength_cabcc, cJ8_newLength_cabcc, 4, (some .int), [])
abbrev mJ8_hugeLength_7cf53 : MI := (yJ8_hugeLength_7cf53, cJ8_hugeLength_7cf53, 3, (some .int), [])
abbrev mJ7_copyOf_9075b : MI := (yJ7_copyOf_9075b, cJ7_copyOf_9075b, 3, (some (.array .byte)), [])
abbrev mJ5_isLatin1_aae02 : MI := (yJ5_isLatin1_aae02, cJ5_isLatin1_aae02, 1, (some .boolean), [])
abbrev mJ2_putCharsAt_cd4e5 : MI := (yJ2_putCharsAt_cd4e5, cJ2_putCharsAt_cd4e5, 7, (some .int), [])
abbrev mJ2_putChar_b72d1 : MI := (yJ2_putChar_b72d1, cJ2_putChar_b72d1, 3, none, [])
abbrev mJ5_putStringAt_47b60 : MI := (yJ5_putStringAt_47b60, cJ5_putStringAt_47b60, 3, none, [])
abbrev mJ5_inflateIfNeededFor_a7421 : MI := (yJ5_inflateIfNeededFor_a7421, cJ5_inflateIfNeededFor_a7421, 2, none, [])
abbrev mJ5_inflate_da8c8 : MI := (yJ5_inflate_da8c8, cJ5_inflate_da8c8, 2, none, [])
abbrev mJ1_inflate_0e8fd : MI := (yJ1_inflate_0e8fd, cJ1_inflate_0e8fd, 5, none, [])
abbrev mJ2_inflate_0e8fd : MI := (yJ2_inflate_0e8fd, cJ2_inflate_0e8fd, 6, none, [])
abbrev mJ2_checkBoundsOffCount_d044e : MI := (yJ2_checkBoundsOffCount_d044e, cJ2_checkBoundsOffCount_d044e, 3, none, [])
abbrev mJ0_checkBoundsOffCount_cabcc : MI := (yJ0_checkBoundsOffCount_cabcc, cJ0_checkBoundsOffCount_cabcc, 3, (some .int), [])
abbrev mJ3_checkFromIndexSize_8c36e : MI := (yJ3_checkFromIndexSize_8c36e, cJ3_checkFromIndexSize_8c36e, 4, (some .int), [])
abbrev mJ0_getBytes_840e7 : MI := (yJ0_getBytes_840e7, cJ0_getBytes_840e7, 4, none, [])
abbrev mJ4_append_bf812 : MI := (yJ4_append_bf812, cJ4_append_bf812, 2, (some (.object "java/lang/StringBuilder")), [])
abbrev mJ5_append_c97b9 : MI := (yJ5_append_c97b9, cJ5_append_c97b9, 4, (some (.object "java/lang/AbstractStringBuilder")), [])
abbrev mJ6_stringSize_0f7a4 : MI := (yJ6_stringSize_0f7a4, cJ6_stringSize_0f7a4, 4, (some .int), [])
abbrev mJ6_getChars_ba4f3 : MI := (yJ6_getChars_ba4f3, cJ6_getChars_ba4f3, 7, (some .int), [])
abbrev mJ2_getChars_46870 : MI := (yJ2_getChars_46870, cJ2_getChars_46870, 5, (some .int), [])
abbrev mJ2_getChars_ba4f3 : MI := (yJ2_getChars_ba4f3, cJ2_getChars_ba4f3, 7, (some .int), [])
abbrev mJ4_toString_0e30d : MI := (yJ4_toString_0e30d, cJ4_toString_0e30d, 1, (some (.object "java/lang/String")), [])
abbrev mJ0_init_81219 : MI := (yJ0_init_81219, cJ0_init_81219, 2, none, [])
abbrev mJ0_init_db425 : MI := (yJ0_init_db425, cJ0_init_db425, 5, none, [])
abbrev mJ5_getValue_6d5f1 : MI := (yJ5_getValue_6d5f1, cJ5_getValue_6d5f1, 1, (some (.array .byte)), [])
abbrev mJ4_length_8abf5 : MI := (yJ4_length_8abf5, cJ4_length_8abf5, 1, (some .int), [])
abbrev mJ5_length_8abf5 : MI := (yJ5_length_8abf5, cJ5_length_8abf5, 1, (some .int), [])
abbrev mJ7_copyOfRange_39247 : MI := (yJ7_copyOfRange_39247, cJ7_copyOfRange_39247, 3, (some (.array .byte)), [])
abbrev mJ7_copyOfRangeByte_39247 : MI := (yJ7_copyOfRangeByte_39247, cJ7_copyOfRangeByte_39247, 5, (some (.array .byte)), [])
abbrev mJ7_checkLength_df160 : MI := (yJ7_checkLength_df160, cJ7_checkLength_df160, 2, none, [])
abbrev mJ2_compress_39247 : MI := (yJ2_compress_39247, cJ2_compress_39247, 6, (some (.array .byte)), [])
abbrev mJ2_compress_5af95 : MI := (yJ2_compress_5af95, cJ2_compress_5af95, 7, (some .int), [])
abbrev mJ2_coderFromArrayLen_85cad : MI := (yJ2_coderFromArrayLen_85cad, cJ2_coderFromArrayLen_85cad, 2, (some .byte), [])
abbrev mJ1_fillNull_b72d1 : MI := (yJ1_fillNull_b72d1, cJ1_fillNull_b72d1, 3, none, [])
abbrev mJ7_fill_eb02e : MI := (yJ7_fill_eb02e, cJ7_fill_eb02e, 5, none, [])
abbrev mJ7_rangeCheck_23922 : MI := (yJ7_rangeCheck_23922, cJ7_rangeCheck_23922, 3, none, [])
abbrev mJx00060_init_d00df : MI := (yJx00060_init_d00df, cJx00060_init_d00df, 2, none, [])
abbrev mJ2_fillNull_b72d1 : MI := (yJ2_fillNull_b72d1, cJ2_fillNull_b72d1, 3, none, [])
abbrev mX7_isTaken : MI := (yX7_isTaken, cX7_isTaken, 3, (some .boolean), [])
abbrev mJ4_charAt_5068e : MI := (yJ4_charAt_5068e, cJ4_charAt_5068e, 2, (some .char), [])
abbrev mJ5_charAt_5068e : MI := (yJ5_charAt_5068e, cJ5_charAt_5068e, 5, (some .char), [])
abbrev mJ0_checkIndex_df160 : MI := (yJ0_checkIndex_df160, cJ0_checkIndex_df160, 2, none, [])
abbrev mJ3_checkIndex_8e157 : MI := (yJ3_checkIndex_8e157, cJ3_checkIndex_8e157, 3, (some .int), [])
abbrev mJ4_append_cf468 : MI := (yJ4_append_cf468, cJ4_append_cf468, 2, (some (.object "java/lang/StringBuilder")), [])
abbrev mJ5_append_3fe6f : MI := (yJ5_append_3fe6f, cJ5_append_3fe6f, 2, (some (.object "java/lang/AbstractStringBuilder")), [])
abbrev mJ1_canEncode_fc78d : MI := (yJ1_canEncode_fc78d, cJ1_canEncode_fc78d, 1, (some .boolean), [])
abbrev mJ2_putCharSB_b72d1 : MI := (yJ2_putCharSB_b72d1, cJ2_putCharSB_b72d1, 3, none, [])
abbrev mJ2_checkIndex_2214a : MI := (yJ2_checkIndex_2214a, cJ2_checkIndex_2214a, 2, none, [])
abbrev mX7_readNumber : MI := (yX7_readNumber, cX7_readNumber, 3, (some .int), [])
abbrev mX7_isDigit : MI := (yX7_isDigit, cX7_isDigit, 1, (some .boolean), [])
abbrev mX7_readClosings : MI := (yX7_readClosings, cX7_readClosings, 2, none, [])
abbrev mX7_blocksRead : MI := (yX7_blocksRead, cX7_blocksRead, 3, (some (.array (.object "CreditTransfer$Block"))), [])
abbrev mX6_reasonAgainst : MI := (yX6_reasonAgainst, cX6_reasonAgainst, 2, (some .int), [])
abbrev mX1_isInRange : MI := (yX1_isInRange, cX1_isInRange, 1, (some .boolean), [])
abbrev mX6_partsIn : MI := (yX6_partsIn, cX6_partsIn, 4, (some .int), [])
abbrev mX3_withProgram : MI := (yX3_withProgram, cX3_withProgram, 2, (some (.object "CreditTransfer$Desk")), [])
abbrev mL_refusal : MI := (yL_refusal, cL_refusal, 3, (some .int), [(0, 8, 11, 50)])
abbrev mX9_refusal : MI := (yX9_refusal, cX9_refusal, 1, (some .int), [])
abbrev mL_block : MI := (yL_block, cL_block, 5, (some .int), [(0, 10, 13, 21), (0, 10, 17, 13)])
abbrev mX9_block : MI := (yX9_block, cX9_block, 4, (some .int), [])
abbrev mX6_partCount : MI := (yX6_partCount, cX6_partCount, 2, (some .int), [])
abbrev mL_part : MI := (yL_part, cL_part, 5, (some .int), [(0, 10, 13, 21), (0, 10, 17, 50)])
abbrev mX9_part : MI := (yX9_part, cX9_part, 4, (some .int), [])
abbrev mX6_partOf : MI := (yX6_partOf, cX6_partOf, 5, (some .int), [])
abbrev mL_letter : MI := (yL_letter, cL_letter, 5, (some .int), [(0, 10, 13, 21), (0, 10, 17, 50)])
abbrev mX9_letter : MI := (yX9_letter, cX9_letter, 4, (some .char), [])
abbrev mJ0_charAt_5068e : MI := (yJ0_charAt_5068e, cJ0_charAt_5068e, 2, (some .char), [])
abbrev mJ1_charAt_3b067 : MI := (yJ1_charAt_3b067, cJ1_charAt_3b067, 2, (some .char), [])
abbrev mJ2_charAt_3b067 : MI := (yJ2_charAt_3b067, cJ2_charAt_3b067, 2, (some .char), [])
abbrev mL_accepts : MI := (yL_accepts, cL_accepts, 5, (some .int), [(0, 17, 20, 21)])
abbrev mX9_accepts : MI := (yX9_accepts, cX9_accepts, 3, (some .boolean), [])
abbrev mL_isMet : MI := (yL_isMet, cL_isMet, 4, (some .int), [(0, 16, 19, 21)])
abbrev mX9_isMet : MI := (yX9_isMet, cX9_isMet, 2, (some .boolean), [])
abbrev mX0_meets : MI := (yX0_meets, cX0_meets, 2, (some .boolean), [])
abbrev mX0_metSet : MI := (yX0_metSet, cX0_metSet, 1, (some .int), [])
abbrev mX6_metSetFor : MI := (yX6_metSetFor, cX6_metSetFor, 2, (some .int), [])
abbrev mL_points : MI := (yL_points, cL_points, 4, (some .int), [(0, 9, 12, 21)])
abbrev mX9_points : MI := (yX9_points, cX9_points, 2, (some .int), [])
abbrev mX0_pointsWithin : MI := (yX0_pointsWithin, cX0_pointsWithin, 4, (some .int), [])
abbrev mX6_isWithin : MI := (yX6_isWithin, cX6_isWithin, 5, (some .boolean), [])
abbrev mL_lacks : MI := (yL_lacks, cL_lacks, 4, (some .int), [(0, 9, 12, 21), (0, 9, 15, 34)])
abbrev mX9_lacks : MI := (yX9_lacks, cX9_lacks, 3, (some .int), [])
abbrev mL_rootsWith : MI := (yL_rootsWith, cL_rootsWith, 7, (some .int), [(0, 14, 17, 13), (0, 14, 21, 34)])
abbrev mX9_rootsWith : MI := (yX9_rootsWith, cX9_rootsWith, 5, (some .int), [])
abbrev mL_lapses : MI := (yL_lapses, cL_lapses, 3, (some .int), [(0, 8, 11, 50)])
abbrev mX9_lapses : MI := (yX9_lapses, cX9_lapses, 3, (some .int), [])
abbrev mX3_hasLastYear : MI := (yX3_hasLastYear, cX3_hasLastYear, 4, (some .boolean), [])
abbrev mX3_inYear : MI := (yX3_inYear, cX3_inYear, 2, (some (.object "CreditTransfer$Desk")), [])
abbrev mL_layers : MI := (yL_layers, cL_layers, 4, (some .int), [(0, 9, 12, 21)])
abbrev mX9_layers : MI := (yX9_layers, cX9_layers, 2, (some .int), [])
abbrev mX8_follow : MI := (yX8_follow, cX8_follow, 7, none, [])
abbrev mX8_addLeaf : MI := (yX8_addLeaf, cX8_addLeaf, 6, none, [])
abbrev mX8_add : MI := (yX8_add, cX8_add, 3, none, [])
abbrev mX8_kindOf : MI := (yX8_kindOf, cX8_kindOf, 4, (some .int), [])
abbrev mX8_firstUnmetPart : MI := (yX8_firstUnmetPart, cX8_firstUnmetPart, 4, (some .int), [])
abbrev mL_why : MI := (yL_why, cL_why, 6, (some .int), [(0, 12, 15, 21), (0, 12, 19, 50), (0, 12, 23, 13)])
abbrev mX9_why : MI := (yX9_why, cX9_why, 4, (some .int), [])
abbrev mL_pass : MI := (yL_pass, cL_pass, 4, (some .int), [(0, 9, 12, 13)])
abbrev mX9_pass : MI := (yX9_pass, cX9_pass, 2, (some .int), [])
abbrev mL_account : MI := (yL_account, cL_account, 4, (some .int), [(0, 9, 12, 13)])
abbrev mX9_account : MI := (yX9_account, cX9_account, 2, (some .int), [])
abbrev mX0_leavesMet : MI := (yX0_leavesMet, cX0_leavesMet, 1, (some .int), [])
abbrev mX0_pointsGiven : MI := (yX0_pointsGiven, cX0_pointsGiven, 1, (some .int), [])
abbrev mX3_pointsOfAll : MI := (yX3_pointsOfAll, cX3_pointsOfAll, 3, (some .int), [])
abbrev mX0_creditsLeft : MI := (yX0_creditsLeft, cX0_creditsLeft, 3, (some .int), [])
abbrev mL_meanGrade : MI := (yL_meanGrade, cL_meanGrade, 3, (some .int), [(0, 7, 10, 112)])
abbrev mX9_meanGrade : MI := (yX9_meanGrade, cX9_meanGrade, 2, (some .double), [])
abbrev mX0_weightedGrades : MI := (yX0_weightedGrades, cX0_weightedGrades, 3, (some .int), [])
abbrev mL_undo : MI := (yL_undo, cL_undo, 3, (some .int), [(0, 8, 11, 34)])
abbrev mX9_undo : MI := (yX9_undo, cX9_undo, 2, (some .int), [])
abbrev mX5_takeLatest : MI := (yX5_takeLatest, cX5_takeLatest, 1, (some (.object "CreditTransfer$Desk")), [])
abbrev mL_restore : MI := (yL_restore, cL_restore, 2, (some .int), [(0, 4, 7, 34)])
abbrev mX9_restore : MI := (yX9_restore, cX9_restore, 1, none, [])
abbrev mX5_forgetAll : MI := (yX5_forgetAll, cX5_forgetAll, 1, none, [])
abbrev mX10_init : MI := (yX10_init, cX10_init, 1, none, [])
abbrev mX10_thrown : MI := (yX10_thrown, cX10_thrown, 1, (some .int), [])
abbrev mX10_undo : MI := (yX10_undo, cX10_undo, 1, (some .int), [])
abbrev mX10_copies : MI := (yX10_copies, cX10_copies, 5, none, [])
abbrev mX10_save : MI := (yX10_save, cX10_save, 1, none, [])
abbrev mX10_restore : MI := (yX10_restore, cX10_restore, 1, none, [])
abbrev mX10_addCredit : MI := (yX10_addCredit, cX10_addCredit, 5, (some .int), [])
abbrev mX10_mayBe : MI := (yX10_mayBe, cX10_mayBe, 5, (some .boolean), [])
abbrev mX10_isLow : MI := (yX10_isLow, cX10_isLow, 1, (some .boolean), [])
abbrev mX10_in : MI := (yX10_in, cX10_in, 3, (some .boolean), [])
abbrev mX10_isCapital : MI := (yX10_isCapital, cX10_isCapital, 1, (some .boolean), [])
abbrev mX10_refuses : MI := (yX10_refuses, cX10_refuses, 3, (some .int), [])
abbrev mX10_fails : MI := (yX10_fails, cX10_fails, 2, (some .int), [])
abbrev mX10_changes : MI := (yX10_changes, cX10_changes, 2, none, [])
abbrev mX10_comes : MI := (yX10_comes, cX10_comes, 6, (some .int), [])
abbrev mX10_creditAt : MI := (yX10_creditAt, cX10_creditAt, 2, (some .int), [])
abbrev mX10_dropCredit : MI := (yX10_dropCredit, cX10_dropCredit, 2, (some .int), [])
abbrev mX10_isCredit : MI := (yX10_isCredit, cX10_isCredit, 2, (some .boolean), [])
abbrev mX10_goes : MI := (yX10_goes, cX10_goes, 3, none, [])
abbrev mX10_credit : MI := (yX10_credit, cX10_credit, 5, (some .int), [])
abbrev mX10_finds : MI := (yX10_finds, cX10_finds, 5, none, [])
abbrev mX10_firstPlace : MI := (yX10_firstPlace, cX10_firstPlace, 3, (some .int), [])
abbrev mX10_takes : MI := (yX10_takes, cX10_takes, 3, (some .boolean), [])
abbrev mX10_isGroup : MI := (yX10_isGroup, cX10_isGroup, 2, (some .boolean), [])
abbrev mX10_blockAt : MI := (yX10_blockAt, cX10_blockAt, 2, (some .int), [])
abbrev mX10_hasLetter : MI := (yX10_hasLetter, cX10_hasLetter, 4, (some .boolean), [])
abbrev mX10_isOld : MI := (yX10_isOld, cX10_isOld, 3, (some .boolean), [])
abbrev mX10_weighs : MI := (yX10_weighs, cX10_weighs, 5, none, [])
abbrev mX10_nextUse : MI := (yX10_nextUse, cX10_nextUse, 2, (some .boolean), [])
abbrev mX10_placeAfter : MI := (yX10_placeAfter, cX10_placeAfter, 4, (some .int), [])
abbrev mX10_code : MI := (yX10_code, cX10_code, 2, (some .char), [])
abbrev mX10_expires : MI := (yX10_expires, cX10_expires, 4, (some .int), [])
abbrev mX10_isBlock : MI := (yX10_isBlock, cX10_isBlock, 2, (some .boolean), [])
abbrev mX10_addEquivalence : MI := (yX10_addEquivalence, cX10_addEquivalence, 7, (some .int), [])
abbrev mX10_equalAt : MI := (yX10_equalAt, cX10_equalAt, 2, (some .int), [])
abbrev mX10_equivalent : MI := (yX10_equivalent, cX10_equivalent, 3, (some .char), [])
abbrev mX10_isEqual : MI := (yX10_isEqual, cX10_isEqual, 2, (some .boolean), [])
abbrev mX10_apply : MI := (yX10_apply, cX10_apply, 3, (some .int), [])
abbrev mX10_against : MI := (yX10_against, cX10_against, 5, (some .int), [])
abbrev mX10_richest : MI := (yX10_richest, cX10_richest, 4, (some .int), [])
abbrev mX10_applies : MI := (yX10_applies, cX10_applies, 7, (some .int), [])
abbrev mX10_rootsBy : MI := (yX10_rootsBy, cX10_rootsBy, 2, (some .int), [])
abbrev mX10_rootsThen : MI := (yX10_rootsThen, cX10_rootsThen, 3, (some .int), [])
abbrev mX10_rootsNow : MI := (yX10_rootsNow, cX10_rootsNow, 1, (some .int), [])
abbrev mX10_bestEquivalence : MI := (yX10_bestEquivalence, cX10_bestEquivalence, 5, (some .int), [])
abbrev mX10_append : MI := (yX10_append, cX10_append, 2, none, [])
abbrev mX10_readProgram : MI := (yX10_readProgram, cX10_readProgram, 4, (some .int), [])
abbrev mX10_isText : MI := (yX10_isText, cX10_isText, 1, (some .boolean), [])
abbrev mX10_here : MI := (yX10_here, cX10_here, 1, (some .int), [])
abbrev mX10_group : MI := (yX10_group, cX10_group, 3, (some .boolean), [])
abbrev mX10_begins : MI := (yX10_begins, cX10_begins, 4, none, [])
abbrev mX10_skips : MI := (yX10_skips, cX10_skips, 3, (some .boolean), [])
abbrev mX10_leaf : MI := (yX10_leaf, cX10_leaf, 2, (some .boolean), [])
abbrev mX10_isNew : MI := (yX10_isNew, cX10_isNew, 4, (some .boolean), [])
abbrev mX10_digits : MI := (yX10_digits, cX10_digits, 1, (some .boolean), [])
abbrev mX10_follows : MI := (yX10_follows, cX10_follows, 1, (some .boolean), [])
abbrev mX10_refusedBy : MI := (yX10_refusedBy, cX10_refusedBy, 6, (some .int), [])
abbrev mX10_parts : MI := (yX10_parts, cX10_parts, 6, (some .int), [])
abbrev mX10_faultPosition : MI := (yX10_faultPosition, cX10_faultPosition, 1, (some .int), [])
abbrev mX10_refusal : MI := (yX10_refusal, cX10_refusal, 1, (some .int), [])
abbrev mX10_block : MI := (yX10_block, cX10_block, 3, (some .int), [])
abbrev mX10_part : MI := (yX10_part, cX10_part, 5, (some .int), [])
abbrev mX10_letter : MI := (yX10_letter, cX10_letter, 3, (some .char), [])
abbrev mX10_accepts : MI := (yX10_accepts, cX10_accepts, 3, (some .boolean), [])
abbrev mX10_isMet : MI := (yX10_isMet, cX10_isMet, 2, (some .boolean), [])
abbrev mX10_points : MI := (yX10_points, cX10_points, 4, (some .int), [])
abbrev mX10_isWithin : MI := (yX10_isWithin, cX10_isWithin, 4, (some .boolean), [])
abbrev mX10_lacks : MI := (yX10_lacks, cX10_lacks, 2, (some .int), [])
abbrev mX10_isComplete : MI := (yX10_isComplete, cX10_isComplete, 1, (some .boolean), [])
abbrev mX10_allRoots : MI := (yX10_allRoots, cX10_allRoots, 3, (some .int), [])
abbrev mX10_rootsWith : MI := (yX10_rootsWith, cX10_rootsWith, 6, (some .int), [])
abbrev mX10_lapses : MI := (yX10_lapses, cX10_lapses, 4, (some .int), [])
abbrev mX10_layers : MI := (yX10_layers, cX10_layers, 2, (some .int), [])
abbrev mX10_findLayers : MI := (yX10_findLayers, cX10_findLayers, 5, none, [])
abbrev mX10_lays : MI := (yX10_lays, cX10_lays, 3, none, [])
abbrev mX10_firstUnmet : MI := (yX10_firstUnmet, cX10_firstUnmet, 3, (some .int), [])
abbrev mX10_why : MI := (yX10_why, cX10_why, 4, (some .int), [])
abbrev mX10_pass : MI := (yX10_pass, cX10_pass, 2, (some .int), [])
abbrev mX10_year : MI := (yX10_year, cX10_year, 1, (some .int), [])
abbrev mX10_account : MI := (yX10_account, cX10_account, 2, (some .int), [])
abbrev mX10_allLeaves : MI := (yX10_allLeaves, cX10_allLeaves, 3, (some .int), [])
abbrev mX10_allPoints : MI := (yX10_allPoints, cX10_allPoints, 3, (some .int), [])
abbrev mX10_unused : MI := (yX10_unused, cX10_unused, 3, (some .int), [])
abbrev mX10_meanGrade : MI := (yX10_meanGrade, cX10_meanGrade, 3, (some .double), [])
theorem inw0 : ∀ w ∈ u_ws RJ0 TJ0 4, w ∈ BIG := inB_ix [699, 701, 1198, 1200] (by decide +kernel) (by decide +kernel)
theorem inw1 : ∀ w ∈ u_ws RJ4 TJ4 4, w ∈ BIG := inB_ix [140, 142, 144, 146] (by decide +kernel) (by decide +kernel)
theorem inw2 : ∀ w ∈ u_ws RJx00060 TJx00060 6, w ∈ BIG := inB_ix [687, 688, 689, 690, 691, 692] (by decide +kernel) (by decide +kernel)
theorem inw3 : ∀ w ∈ u_ws RJx7c733 TJx7c733 6, w ∈ BIG := inB_ix [1204, 1205, 1206, 1207, 1208, 1209] (by decide +kernel) (by decide +kernel)
theorem inw4 : ∀ w ∈ u_ws RX0 TX0 10, w ∈ BIG := inB_ix [305, 307, 309, 311, 313, 315, 317, 319, 321, 323] (by decide +kernel) (by decide +kernel)
theorem inw5 : ∀ w ∈ u_ws RX1 TX1 6, w ∈ BIG := inB_ix [991, 993, 995, 997, 999, 1001] (by decide +kernel) (by decide +kernel)
theorem inw6 : ∀ w ∈ u_ws RX2 TX2 4, w ∈ BIG := inB_ix [644, 646, 648, 650] (by decide +kernel) (by decide +kernel)
theorem inw7 : ∀ w ∈ u_ws RX3 TX3 4, w ∈ BIG := inB_ix [280, 282, 284, 286] (by decide +kernel) (by decide +kernel)
theorem inw8 : ∀ w ∈ u_ws RX4 TX4 4, w ∈ BIG := inB_ix [813, 815, 817, 819] (by decide +kernel) (by decide +kernel)
theorem inw9 : ∀ w ∈ u_ws RX5 TX5 2, w ∈ BIG := inB_ix [190, 192] (by decide +kernel) (by decide +kernel)
theorem inw10 : ∀ w ∈ u_ws RX6 TX6 5, w ∈ BIG := inB_ix [251, 253, 255, 257, 259] (by decide +kernel) (by decide +kernel)
theorem inw11 : ∀ w ∈ u_ws RX7 TX7 8, w ∈ BIG := inB_ix [161, 163, 165, 167, 169, 171, 173, 175] (by decide +kernel) (by decide +kernel)
theorem inw12 : ∀ w ∈ u_ws RX8 TX8 3, w ∈ BIG := inB_ix [338, 340, 342] (by decide +kernel) (by decide +kernel)
theorem inw13 : ∀ w ∈ u_ws RX9 TX9 9, w ∈ BIG := inB_ix [354, 356, 358, 360, 362, 364, 366, 368, 370] (by decide +kernel) (by decide +kernel)
theorem inw14 : ∀ w ∈ u_ws RX10 TX10 27, w ∈ BIG := inB_ix [1585, 1587, 1589, 1591, 1593, 1595, 1597, 1599, 1601, 1603, 1605, 1607, 1609, 1611, 1613, 1615, 1617, 1619, 1621, 1623, 1625, 1627, 1629, 1631, 1633, 1635, 1637] (by decide +kernel) (by decide +kernel)
theorem f_J0_9 : FL RJ0 9 0 0 := ⟨RJ0, TJ0, 4, "java/lang/String", rfl, by decide, inw0, (inB 1196 (by decide +kernel) (by decide +kernel)), Or.inl rfl⟩
theorem f_J0_15 : FL RJ0 15 0 1 := ⟨RJ0, TJ0, 4, "java/lang/String", rfl, by decide, inw0, (inB 1197 (by decide +kernel) (by decide +kernel)), Or.inl rfl⟩
theorem f_J0_1048 : FL RJ0 1048 1 2 := ⟨RJ4, TJ4, 4, "java/lang/AbstractStringBuilder", rfl, by decide, inw1, (inB 138 (by decide +kernel) (by decide +kernel)), Or.inl rfl⟩
theorem o_J0_1 : Cond.methodLink RJ0 1 objectInit ∈ BIG := (inB 1151 (by decide +kernel) (by decide +kernel))
theorem cb_J0_init_db425 (own : String) : CB own mJ0_init_db425 2 := ⟨inB 1150 (by decide +kernel) (by decide +kernel), (inB 72 (by decide +kernel) (by decide +kernel)), by decide, by decide +kernel, by decide +kernel, by decide +kernel⟩
theorem i_J0_489 : CI RJ0 489 mJ0_init_db425 2 := ⟨⟨cb_J0_init_db425 _, rfl⟩, (inB 1148 (by decide +kernel) (by decide +kernel)), (inB 1149 (by decide +kernel) (by decide +kernel)), rfl, rfl⟩
theorem cb_J2_coderFromArrayLen_85cad (own : String) : CB own mJ2_coderFromArrayLen_85cad 2 := ⟨inB 1195 (by decide +kernel) (by decide +kernel), (inB 73 (by decide +kernel) (by decide +kernel)), by decide, by decide +kernel, by decide +kernel, by decide +kernel⟩
theorem s_J0_47 : CS RJ0 47 mJ2_coderFromArrayLen_85cad 2 := ⟨⟨cb_J2_coderFromArrayLen_85cad _, rfl⟩, (inB 1193 (by decide +kernel) (by decide +kernel)), (inB 1194 (by decide +kernel) (by decide +kernel))⟩
theorem cb_J7_copyOfRange_39247 (own : String) : CB own mJ7_copyOfRange_39247 3 := ⟨inB 1168 (by decide +kernel) (by decide +kernel), (inB 100 (by decide +kernel) (by decide +kernel)), by decide, by decide +kernel, by decide +kernel, by decide +kernel⟩
theorem s_J0_54 : CS RJ0 54 mJ7_copyOfRange_39247 3 := ⟨⟨cb_J7_copyOfRange_39247 _, rfl⟩, (inB 1166 (by decide +kernel) (by decide +kernel)), (inB 1167 (by decide +kernel) (by decide +kernel))⟩
theorem cb_J1_inflate_0e8fd (own : String) : CB own mJ1_inflate_0e8fd 5 := ⟨inB 1096 (by decide +kernel) (by decide +kernel), (inB 91 (by decide +kernel) (by decide +kernel)), by decide, by decide +kernel, by decide +kernel, by decide +kernel⟩
theorem s_J0_106 : CS RJ0 106 mJ1_inflate_0e8fd 5 := ⟨⟨cb_J1_inflate_0e8fd _, rfl⟩, (inB 1114 (by decide +kernel) (by decide +kernel)), (inB 1095 (by decide +kernel) (by decide +kernel))⟩
theorem cb_J1_charAt_3b067 (own : String) : CB own mJ1_charAt_3b067 2 := ⟨inB 1350 (by decide +kernel) (by decide +kernel), (inB 91 (by decide +kernel) (by decide +kernel)), by decide, by decide +kernel, by decide +kernel, by decide +kernel⟩
theorem s_J0_495 : CS RJ0 495 mJ1_charAt_3b067 2 := ⟨⟨cb_J1_charAt_3b067 _, rfl⟩, (inB 1348 (by decide +kernel) (by decide +kernel)), (inB 1349 (by decide +kernel) (by decide +kernel))⟩
theorem cb_J2_charAt_3b067 (own : String) : CB own mJ2_charAt_3b067 2 := ⟨inB 1354 (by decide +kernel) (by decide +kernel), (inB 73 (by decide +kernel) (by decide +kernel)), by decide, by decide +kernel, by decide +kernel, by decide +kernel⟩
theorem s_J0_498 : CS RJ0 498 mJ2_charAt_3b067 2 := ⟨⟨cb_J2_charAt_3b067 _, rfl⟩, (inB 1352 (by decide +kernel) (by decide +kernel)), (inB 1353 (by decide +kernel) (by decide +kernel))⟩
theorem cb_J1_indexOf_4cfef (own : String) : CB own mJ1_indexOf_4cfef 4 := ⟨inB 429 (by decide +kernel) (by decide +kernel), (inB 91 (by decide +kernel) (by decide +kernel)), by decide, by decide +kernel, by decide +kernel, by decide +kernel⟩
theorem s_J0_637 : CS RJ0 637 mJ1_indexOf_4cfef 4 := ⟨⟨cb_J1_indexOf_4cfef _, rfl⟩, (inB 427 (by decide +kernel) (by decide +kernel)), (inB 428 (by decide +kernel) (by decide +kernel))⟩
theorem cb_J2_indexOf_4cfef (own : String) : CB own mJ2_indexOf_4cfef 4 := ⟨inB 442 (by decide +kernel) (by decide +kernel), (inB 73 (by decide +kernel) (by decide +kernel)), by decide, by decide +kernel, by decide +kernel, by decide +kernel⟩
theorem s_J0_640 : CS RJ0 640 mJ2_indexOf_4cfef 4 := ⟨⟨cb_J2_indexOf_4cfef _, rfl⟩, (inB 440 (by decide +kernel) (by decide +kernel)), (inB 441 (by decide +kernel) (by decide +kernel))⟩
theorem cb_J2_compress_39247 (own : String) : CB own mJ2_compress_39247 3 := ⟨inB 1188 (by decide +kernel) (by decide +kernel), (inB 73 (by decide +kernel) (by decide +kernel)), by decide, by decide +kernel, by decide +kernel, by decide +kernel⟩
theorem s_J0_1051 : CS RJ0 1051 mJ2_compress_39247 3 := ⟨⟨cb_J2_compress_39247 _, rfl⟩, (inB 1186 (by decide +kernel) (by decide +kernel)), (inB 1187 (by decide +kernel) (by decide +kernel))⟩
theorem cb_J3_checkIndex_8e157 (own : String) : CB own mJ3_checkIndex_8e157 3 := ⟨inB 1256 (by decide +kernel) (by decide +kernel), (inB 92 (by decide +kernel) (by decide +kernel)), by decide, by decide +kernel, by decide +kernel, by decide +kernel⟩
theorem s_J0_1059 : CS RJ0 1059 mJ3_checkIndex_8e157 3 := ⟨⟨cb_J3_checkIndex_8e157 _, rfl⟩, (inB 1254 (by decide +kernel) (by decide +kernel)), (inB 1255 (by decide +kernel) (by decide +kernel))⟩
theorem cb_J3_checkFromToIndex_8c36e (own : String) : CB own mJ3_checkFromToIndex_8c36e 4 := ⟨inB 462 (by decide +kernel) (by decide +kernel), (inB 92 (by decide +kernel) (by decide +kernel)), by decide, by decide +kernel, by decide +kernel, by decide +kernel⟩
theorem s_J0_1062 : CS RJ0 1062 mJ3_checkFromToIndex_8c36e 4 := ⟨⟨cb_J3_checkFromToIndex_8c36e _, rfl⟩, (inB 460 (by decide +kernel) (by decide +kernel)), (inB 461 (by decide +kernel) (by decide +kernel))⟩
theorem cb_J3_checkFromIndexSize_8c36e (own : String) : CB own mJ3_checkFromIndexSize_8c36e 4 := ⟨inB 1108 (by decide +kernel) (by decide +kernel), (inB 92 (by decide +kernel) (by decide +kernel)), by decide, by decide +kernel, by decide +kernel, by decide +kernel⟩
theorem s_J0_1065 : CS RJ0 1065 mJ3_checkFromIndexSize_8c36e 4 := ⟨⟨cb_J3_checkFromIndexSize_8c36e _, rfl⟩, (inB 1106 (by decide +kernel) (by decide +kernel)), (inB 1107 (by decide +kernel) (by decide +kernel))⟩
theorem cb_J0_coder_7d493 (own : String) : CB own mJ0_coder_7d493 0 := ⟨inB 426 (by decide +kernel) (by decide +kernel), (inB 72 (by decide +kernel) (by decide +kernel)), by decide, by decide +kernel, by decide +kernel, by decide +kernel⟩
theorem v_J0_335 : CV RJ0 335 0 mJ0_coder_7d493 0 := ⟨⟨cb_J0_coder_7d493 _, rfl⟩, (inB 423 (by decide +kernel) (by decide +kernel)), (inB 424 (by decide +kernel) (by decide +kernel)), RJ0, TJ0, 4, (inB 425 (by decide +kernel) (by decide +kernel)), rfl⟩
theorem cb_J0_isLatin1_aae02 (own : String) : CB own mJ0_isLatin1_aae02 0 := ⟨inB 417 (by decide +kernel) (by decide +kernel), (inB 72 (by decide +kernel) (by decide +kernel)), by decide, by decide +kernel, by decide +kernel, by decide +kernel⟩
theorem v_J0_492 : CV RJ0 492 0 mJ0_isLatin1_aae02 0 := ⟨⟨cb_J0_isLatin1_aae02 _, rfl⟩, (inB 414 (by decide +kernel) (by decide +kernel)), (inB 415 (by decide +kernel) (by decide +kernel)), RJ0, TJ0, 4, (inB 416 (by decide +kernel) (by decide +kernel)), rfl⟩
theorem cb_J0_length_8abf5 (own : String) : CB own mJ0_length_8abf5 0 := ⟨inB 422 (by decide +kernel) (by decide +kernel), (inB 72 (by decide +kernel) (by decide +kernel)), by decide, by decide +kernel, by decide +kernel, by decide +kernel⟩
theorem v_J0_505 : CV RJ0 505 0 mJ0_length_8abf5 0 := ⟨⟨cb_J0_length_8abf5 _, rfl⟩, (inB 419 (by decide +kernel) (by decide +kernel)), (inB 420 (by decide +kernel) (by decide +kernel)), RJ0, TJ0, 4, (inB 421 (by decide +kernel) (by decide +kernel)), rfl⟩
theorem cb_J5_getValue_6d5f1 (own : String) : CB own mJ5_getValue_6d5f1 0 := ⟨inB 1156 (by decide +kernel) (by decide +kernel), (inB 70 (by decide +kernel) (by decide +kernel)), by decide, by decide +kernel, by decide +kernel, by decide +kernel⟩
theorem v_J0_552_1 : CV RJ0 552 1 mJ5_getValue_6d5f1 0 := ⟨⟨cb_J5_getValue_6d5f1 _, rfl⟩, (inB 1152 (by decide +kernel) (by decide +kernel)), (inB 1153 (by decide +kernel) (by decide +kernel)), RJ4, TJ4, 4, (inB 1155 (by decide +kernel) (by decide +kernel)), rfl⟩
theorem cb_J0_indexOf_7cf53 (own : String) : CB own mJ0_indexOf_7cf53 2 := ⟨inB 413 (by decide +kernel) (by decide +kernel), (inB 72 (by decide +kernel) (by decide +kernel)), by decide, by decide +kernel, by decide +kernel, by decide +kernel⟩
theorem v_J0_633 : CV RJ0 633 0 mJ0_indexOf_7cf53 2 := ⟨⟨cb_J0_indexOf_7cf53 _, rfl⟩, (inB 410 (by decide +kernel) (by decide +kernel)), (inB 411 (by decide +kernel) (by decide +kernel)), RJ0, TJ0, 4, (inB 412 (by decide +kernel) (by decide +kernel)), rfl⟩
theorem cb_J5_isLatin1_aae02 (own : String) : CB own mJ5_isLatin1_aae02 0 := ⟨inB 1073 (by decide +kernel) (by decide +kernel), (inB 70 (by decide +kernel) (by decide +kernel)), by decide, by decide +kernel, by decide +kernel, by decide +kernel⟩
theorem v_J0_1047_1 : CV RJ0 1047 1 mJ5_isLatin1_aae02 0 := ⟨⟨cb_J5_isLatin1_aae02 _, rfl⟩, (inB 1165 (by decide +kernel) (by decide +kernel)), (inB 1070 (by decide +kernel) (by decide +kernel)), RJ4, TJ4, 4, (inB 1072 (by decide +kernel) (by decide +kernel)), rfl⟩
theorem p_J0_9 : FP RJ0 0 0 (.array .byte) := ⟨RJ0, TJ0, 4, tyJ0, rfl, tyJ0_ok, nmJ0, tyJ0_ok 0 (by decide), fun _ => rfl⟩
theorem ff_0_0 : FF 0 0 "<init>" := fun _ _ _ _ _ => rfl
theorem p_J0_15 : FP RJ0 0 1 (.byte) := ⟨RJ0, TJ0, 4, tyJ0, rfl, tyJ0_ok, nmJ0, tyJ0_ok 1 (by decide), fun _ => rfl⟩
theorem ff_0_1 : FF 0 1 "<init>" := fun _ _ _ _ _ => rfl
theorem cb_J0_checkIndex_df160 (own : String) : CB own mJ0_checkIndex_df160 2 := ⟨inB 1253 (by decide +kernel) (by decide +kernel), (inB 72 (by decide +kernel) (by decide +kernel)), by decide, by decide +kernel, by decide +kernel, by decide +kernel⟩
theorem s_J1_9 : CS RJ1 9 mJ0_checkIndex_df160 2 := ⟨⟨cb_J0_checkIndex_df160 _, rfl⟩, (inB 1351 (by decide +kernel) (by decide +kernel)), (inB 1252 (by decide +kernel) (by decide +kernel))⟩
theorem cb_J9_min_7cf53 (own : String) : CB own mJ9_min_7cf53 2 := ⟨inB 224 (by decide +kernel) (by decide +kernel), (inB 77 (by decide +kernel) (by decide +kernel)), by decide, by decide +kernel, by decide +kernel, by decide +kernel⟩
theorem s_J1_38 : CS RJ1 38 mJ9_min_7cf53 2 := ⟨⟨cb_J9_min_7cf53 _, rfl⟩, (inB 436 (by decide +kernel) (by decide +kernel)), (inB 223 (by decide +kernel) (by decide +kernel))⟩
theorem cb_J1_canEncode_9a6ad (own : String) : CB own mJ1_canEncode_9a6ad 1 := ⟨inB 432 (by decide +kernel) (by decide +kernel), (inB 91 (by decide +kernel) (by decide +kernel)), by decide, by decide +kernel, by decide +kernel, by decide +kernel⟩
theorem s_J1_88 : CS RJ1 88 mJ1_canEncode_9a6ad 1 := ⟨⟨cb_J1_canEncode_9a6ad _, rfl⟩, (inB 430 (by decide +kernel) (by decide +kernel)), (inB 431 (by decide +kernel) (by decide +kernel))⟩
theorem cb_J9_max_7cf53 (own : String) : CB own mJ9_max_7cf53 2 := ⟨inB 435 (by decide +kernel) (by decide +kernel), (inB 77 (by decide +kernel) (by decide +kernel)), by decide, by decide +kernel, by decide +kernel, by decide +kernel⟩
theorem s_J1_92 : CS RJ1 92 mJ9_max_7cf53 2 := ⟨⟨cb_J9_max_7cf53 _, rfl⟩, (inB 433 (by decide +kernel) (by decide +kernel)), (inB 434 (by decide +kernel) (by decide +kernel))⟩
theorem cb_J1_indexOfChar_4cfef (own : String) : CB own mJ1_indexOfChar_4cfef 4 := ⟨inB 439 (by decide +kernel) (by decide +kernel), (inB 91 (by decide +kernel) (by decide +kernel)), by decide, by decide +kernel, by decide +kernel, by decide +kernel⟩
theorem s_J1_95 : CS RJ1 95 mJ1_indexOfChar_4cfef 4 := ⟨⟨cb_J1_indexOfChar_4cfef _, rfl⟩, (inB 437 (by decide +kernel) (by decide +kernel)), (inB 438 (by decide +kernel) (by decide +kernel))⟩
theorem cb_J7_fill_eb02e (own : String) : CB own mJ7_fill_eb02e 4 := ⟨inB 1216 (by decide +kernel) (by decide +kernel), (inB 100 (by decide +kernel) (by decide +kernel)), by decide, by decide +kernel, by decide +kernel, by decide +kernel⟩
theorem s_J1_236 : CS RJ1 236 mJ7_fill_eb02e 4 := ⟨⟨cb_J7_fill_eb02e _, rfl⟩, (inB 1214 (by decide +kernel) (by decide +kernel)), (inB 1215 (by decide +kernel) (by decide +kernel))⟩
theorem cb_J2_inflate_0e8fd (own : String) : CB own mJ2_inflate_0e8fd 5 := ⟨inB 1099 (by decide +kernel) (by decide +kernel), (inB 73 (by decide +kernel) (by decide +kernel)), by decide, by decide +kernel, by decide +kernel, by decide +kernel⟩
theorem s_J1_240 : CS RJ1 240 mJ2_inflate_0e8fd 5 := ⟨⟨cb_J2_inflate_0e8fd _, rfl⟩, (inB 1097 (by decide +kernel) (by decide +kernel)), (inB 1098 (by decide +kernel) (by decide +kernel))⟩
theorem k_J11_76 : Cond.constant RJ11 76 (56320 : Int32) ∈ BIG := (inB 488 (by decide +kernel) (by decide +kernel))
theorem k_J11_110 : Cond.constant RJ11 110 (55232 : Int32) ∈ BIG := (inB 484 (by decide +kernel) (by decide +kernel))
theorem cb_J2_newBytesLength_0f7a4 (own : String) : CB own mJ2_newBytesLength_0f7a4 1 := ⟨inB 133 (by decide +kernel) (by decide +kernel), (inB 73 (by decide +kernel) (by decide +kernel)), by decide, by decide +kernel, by decide +kernel, by decide +kernel⟩
theorem s_J2_11 : CS RJ2 11 mJ2_newBytesLength_0f7a4 1 := ⟨⟨cb_J2_newBytesLength_0f7a4 _, rfl⟩, (inB 131 (by decide +kernel) (by decide +kernel)), (inB 132 (by decide +kernel) (by decide +kernel))⟩
theorem cb_J2_length_9d52b (own : String) : CB own mJ2_length_9d52b 1 := ⟨inB 454 (by decide +kernel) (by decide +kernel), (inB 73 (by decide +kernel) (by decide +kernel)), by decide, by decide +kernel, by decide +kernel, by decide +kernel⟩
theorem s_J2_48 : CS RJ2 48 mJ2_length_9d52b 1 := ⟨⟨cb_J2_length_9d52b _, rfl⟩, (inB 452 (by decide +kernel) (by decide +kernel)), (inB 453 (by decide +kernel) (by decide +kernel))⟩
theorem cb_J2_checkIndex_2214a (own : String) : CB own mJ2_checkIndex_2214a 2 := ⟨inB 1273 (by decide +kernel) (by decide +kernel), (inB 73 (by decide +kernel) (by decide +kernel)), by decide, by decide +kernel, by decide +kernel, by decide +kernel⟩
theorem s_J2_67 : CS RJ2 67 mJ2_checkIndex_2214a 2 := ⟨⟨cb_J2_checkIndex_2214a _, rfl⟩, (inB 1271 (by decide +kernel) (by decide +kernel)), (inB 1272 (by decide +kernel) (by decide +kernel))⟩
theorem cb_J2_getChar_3b067 (own : String) : CB own mJ2_getChar_3b067 2 := ⟨inB 468 (by decide +kernel) (by decide +kernel), (inB 73 (by decide +kernel) (by decide +kernel)), by decide, by decide +kernel, by decide +kernel, by decide +kernel⟩
theorem s_J2_71 : CS RJ2 71 mJ2_getChar_3b067 2 := ⟨⟨cb_J2_getChar_3b067 _, rfl⟩, (inB 466 (by decide +kernel) (by decide +kernel)), (inB 467 (by decide +kernel) (by decide +kernel))⟩
theorem cb_J2_checkBoundsBeginEnd_d044e (own : String) : CB own mJ2_checkBoundsBeginEnd_d044e 3 := ⟨inB 451 (by decide +kernel) (by decide +kernel), (inB 73 (by decide +kernel) (by decide +kernel)), by decide, by decide +kernel, by decide +kernel, by decide +kernel⟩
theorem s_J2_96 : CS RJ2 96 mJ2_checkBoundsBeginEnd_d044e 3 := ⟨⟨cb_J2_checkBoundsBeginEnd_d044e _, rfl⟩, (inB 449 (by decide +kernel) (by decide +kernel)), (inB 450 (by decide +kernel) (by decide +kernel))⟩
theorem cb_J2_putChar_b72d1 (own : String) : CB own mJ2_putChar_b72d1 3 := ⟨inB 1079 (by decide +kernel) (by decide +kernel), (inB 73 (by decide +kernel) (by decide +kernel)), by decide, by decide +kernel, by decide +kernel, by decide +kernel⟩
theorem s_J2_111 : CS RJ2 111 mJ2_putChar_b72d1 3 := ⟨⟨cb_J2_putChar_b72d1 _, rfl⟩, (inB 1077 (by decide +kernel) (by decide +kernel)), (inB 1078 (by decide +kernel) (by decide +kernel))⟩
theorem cb_J2_compress_5af95 (own : String) : CB own mJ2_compress_5af95 5 := ⟨inB 1191 (by decide +kernel) (by decide +kernel), (inB 73 (by decide +kernel) (by decide +kernel)), by decide, by decide +kernel, by decide +kernel, by decide +kernel⟩
theorem s_J2_123 : CS RJ2 123 mJ2_compress_5af95 5 := ⟨⟨cb_J2_compress_5af95 _, rfl⟩, (inB 1189 (by decide +kernel) (by decide +kernel)), (inB 1190 (by decide +kernel) (by decide +kernel))⟩
theorem s_J2_126 : CS RJ2 126 mJ7_copyOfRange_39247 3 := ⟨⟨cb_J7_copyOfRange_39247 _, rfl⟩, (inB 1192 (by decide +kernel) (by decide +kernel)), (inB 1167 (by decide +kernel) (by decide +kernel))⟩
theorem cb_J11_highSurrogate_5068e (own : String) : CB own mJ11_highSurrogate_5068e 1 := ⟨inB 483 (by decide +kernel) (by decide +kernel), (inB 93 (by decide +kernel) (by decide +kernel)), by decide, by decide +kernel, by decide +kernel, by decide +kernel⟩
theorem s_J2_157 : CS RJ2 157 mJ11_highSurrogate_5068e 1 := ⟨⟨cb_J11_highSurrogate_5068e _, rfl⟩, (inB 481 (by decide +kernel) (by decide +kernel)), (inB 482 (by decide +kernel) (by decide +kernel))⟩
theorem cb_J11_lowSurrogate_5068e (own : String) : CB own mJ11_lowSurrogate_5068e 1 := ⟨inB 487 (by decide +kernel) (by decide +kernel), (inB 93 (by decide +kernel) (by decide +kernel)), by decide, by decide +kernel, by decide +kernel, by decide +kernel⟩
theorem s_J2_161 : CS RJ2 161 mJ11_lowSurrogate_5068e 1 := ⟨⟨cb_J11_lowSurrogate_5068e _, rfl⟩, (inB 485 (by decide +kernel) (by decide +kernel)), (inB 486 (by decide +kernel) (by decide +kernel))⟩
theorem cb_J11_isValidCodePoint_9a6ad (own : String) : CB own mJ11_isValidCodePoint_9a6ad 1 := ⟨inB 480 (by decide +kernel) (by decide +kernel), (inB 93 (by decide +kernel) (by decide +kernel)), by decide, by decide +kernel, by decide +kernel, by decide +kernel⟩
theorem s_J2_164 : CS RJ2 164 mJ11_isValidCodePoint_9a6ad 1 := ⟨⟨cb_J11_isValidCodePoint_9a6ad _, rfl⟩, (inB 478 (by decide +kernel) (by decide +kernel)), (inB 479 (by decide +kernel) (by decide +kernel))⟩
theorem cb_J2_checkBoundsOffCount_d044e (own : String) : CB own mJ2_checkBoundsOffCount_d044e 3 := ⟨inB 1102 (by decide +kernel) (by decide +kernel), (inB 73 (by decide +kernel) (by decide +kernel)), by decide, by decide +kernel, by decide +kernel, by decide +kernel⟩
theorem s_J2_173 : CS RJ2 173 mJ2_checkBoundsOffCount_d044e 3 := ⟨⟨cb_J2_checkBoundsOffCount_d044e _, rfl⟩, (inB 1100 (by decide +kernel) (by decide +kernel)), (inB 1101 (by decide +kernel) (by decide +kernel))⟩
theorem s_J2_183 : CS RJ2 183 mJ9_min_7cf53 2 := ⟨⟨cb_J9_min_7cf53 _, rfl⟩, (inB 444 (by decide +kernel) (by decide +kernel)), (inB 223 (by decide +kernel) (by decide +kernel))⟩
theorem s_J2_224 : CS RJ2 224 mJ9_max_7cf53 2 := ⟨⟨cb_J9_max_7cf53 _, rfl⟩, (inB 443 (by decide +kernel) (by decide +kernel)), (inB 434 (by decide +kernel) (by decide +kernel))⟩
theorem cb_J2_indexOfChar_4cfef (own : String) : CB own mJ2_indexOfChar_4cfef 4 := ⟨inB 448 (by decide +kernel) (by decide +kernel), (inB 73 (by decide +kernel) (by decide +kernel)), by decide, by decide +kernel, by decide +kernel, by decide +kernel⟩
theorem s_J2_228 : CS RJ2 228 mJ2_indexOfChar_4cfef 4 := ⟨⟨cb_J2_indexOfChar_4cfef _, rfl⟩, (inB 446 (by decide +kernel) (by decide +kernel)), (inB 447 (by decide +kernel) (by decide +kernel))⟩
theorem cb_J2_indexOfSupplementary_4cfef (own : String) : CB own mJ2_indexOfSupplementary_4cfef 4 := ⟨inB 477 (by decide +kernel) (by decide +kernel), (inB 73 (by decide +kernel) (by decide +kernel)), by decide, by decide +kernel, by decide +kernel, by decide +kernel⟩
theorem s_J2_232 : CS RJ2 232 mJ2_indexOfSupplementary_4cfef 4 := ⟨⟨cb_J2_indexOfSupplementary_4cfef _, rfl⟩, (inB 475 (by decide +kernel) (by decide +kernel)), (inB 476 (by decide +kernel) (by decide +kernel))⟩
theorem cb_J0_checkBoundsBeginEnd_23922 (own : String) : CB own mJ0_checkBoundsBeginEnd_23922 3 := ⟨inB 457 (by decide +kernel) (by decide +kernel), (inB 72 (by decide +kernel) (by decide +kernel)), by decide, by decide +kernel, by decide +kernel, by decide +kernel⟩
theorem s_J2_241 : CS RJ2 241 mJ0_checkBoundsBeginEnd_23922 3 := ⟨⟨cb_J0_checkBoundsBeginEnd_23922 _, rfl⟩, (inB 455 (by decide +kernel) (by decide +kernel)), (inB 456 (by decide +kernel) (by decide +kernel))⟩
theorem cb_J2_indexOfCharUnsafe_4cfef (own : String) : CB own mJ2_indexOfCharUnsafe_4cfef 4 := ⟨inB 465 (by decide +kernel) (by decide +kernel), (inB 73 (by decide +kernel) (by decide +kernel)), by decide, by decide +kernel, by decide +kernel, by decide +kernel⟩
theorem s_J2_244 : CS RJ2 244 mJ2_indexOfCharUnsafe_4cfef 4 := ⟨⟨cb_J2_indexOfCharUnsafe_4cfef _, rfl⟩, (inB 463 (by decide +kernel) (by decide +kernel)), (inB 464 (by decide +kernel) (by decide +kernel))⟩
theorem s_J2_380 : CS RJ2 380 mJ7_fill_eb02e 4 := ⟨⟨cb_J7_fill_eb02e _, rfl⟩, (inB 1236 (by decide +kernel) (by decide +kernel)), (inB 1215 (by decide +kernel) (by decide +kernel))⟩
theorem cb_J2_getChars_ba4f3 (own : String) : CB own mJ2_getChars_ba4f3 3 := ⟨inB 1137 (by decide +kernel) (by decide +kernel), (inB 73 (by decide +kernel) (by decide +kernel)), by decide, by decide +kernel, by decide +kernel, by decide +kernel⟩
theorem s_J2_393 : CS RJ2 393 mJ2_getChars_ba4f3 3 := ⟨⟨cb_J2_getChars_ba4f3 _, rfl⟩, (inB 1135 (by decide +kernel) (by decide +kernel)), (inB 1136 (by decide +kernel) (by decide +kernel))⟩
theorem s_J2_414 : CS RJ2 414 mJ0_checkIndex_df160 2 := ⟨⟨cb_J0_checkIndex_df160 _, rfl⟩, (inB 1274 (by decide +kernel) (by decide +kernel)), (inB 1252 (by decide +kernel) (by decide +kernel))⟩
theorem cb_J0_checkBoundsOffCount_cabcc (own : String) : CB own mJ0_checkBoundsOffCount_cabcc 3 := ⟨inB 1105 (by decide +kernel) (by decide +kernel), (inB 72 (by decide +kernel) (by decide +kernel)), by decide, by decide +kernel, by decide +kernel, by decide +kernel⟩
theorem s_J2_419 : CS RJ2 419 mJ0_checkBoundsOffCount_cabcc 3 := ⟨⟨cb_J0_checkBoundsOffCount_cabcc _, rfl⟩, (inB 1103 (by decide +kernel) (by decide +kernel)), (inB 1104 (by decide +kernel) (by decide +kernel))⟩
theorem k_J2_20 : Cond.constant RJ2 20 (1073741823 : Int32) ∈ BIG := (inB 134 (by decide +kernel) (by decide +kernel))
theorem k_J2_227 : Cond.constant RJ2 227 (65536 : Int32) ∈ BIG := (inB 445 (by decide +kernel) (by decide +kernel))
theorem cb_J5_init_d00df (own : String) : CB own mJ5_init_d00df 1 := ⟨inB 124 (by decide +kernel) (by decide +kernel), (inB 70 (by decide +kernel) (by decide +kernel)), by decide, by decide +kernel, by decide +kernel, by decide +kernel⟩
theorem i_J4_1 : CI RJ4 1 mJ5_init_d00df 1 := ⟨⟨cb_J5_init_d00df _, rfl⟩, (inB 122 (by decide +kernel) (by decide +kernel)), (inB 123 (by decide +kernel) (by decide +kernel)), rfl, rfl⟩
theorem cb_J0_init_81219 (own : String) : CB own mJ0_init_81219 1 := ⟨inB 1147 (by decide +kernel) (by decide +kernel), (inB 72 (by decide +kernel) (by decide +kernel)), by decide, by decide +kernel, by decide +kernel, by decide +kernel⟩
theorem i_J4_137 : CI RJ4 137 mJ0_init_81219 1 := ⟨⟨cb_J0_init_81219 _, rfl⟩, (inB 1145 (by decide +kernel) (by decide +kernel)), (inB 1146 (by decide +kernel) (by decide +kernel)), rfl, rfl⟩
theorem n_J4_18 : NW RJ4 18 0 4 [.null, .int (J 0), .int (J 0), .int (J 0)] := ⟨RJ0, TJ0, tyJ0, rfl, inw0, tyJ0_ok, by decide +kernel, (inB 1144 (by decide +kernel) (by decide +kernel)), (inB 698 (by decide +kernel) (by decide +kernel)), (inB 72 (by decide +kernel) (by decide +kernel))⟩
theorem f_J5_15 : FL RJ5 15 1 0 := ⟨RJ4, TJ4, 4, "java/lang/AbstractStringBuilder", rfl, by decide, inw1, (inB 135 (by decide +kernel) (by decide +kernel)), Or.inl rfl⟩
theorem f_J5_22 : FL RJ5 22 1 1 := ⟨RJ4, TJ4, 4, "java/lang/AbstractStringBuilder", rfl, by decide, inw1, (inB 136 (by decide +kernel) (by decide +kernel)), Or.inl rfl⟩
theorem f_J5_79 : FL RJ5 79 1 3 := ⟨RJ4, TJ4, 4, "java/lang/AbstractStringBuilder", rfl, by decide, inw1, (inB 139 (by decide +kernel) (by decide +kernel)), Or.inl rfl⟩
theorem o_J5_3 : Cond.methodLink RJ5 3 objectInit ∈ BIG := (inB 125 (by decide +kernel) (by decide +kernel))
theorem cb_Jx7c733_init_d00df (own : String) : CB own mJx7c733_init_d00df 1 := ⟨inB 1023 (by decide +kernel) (by decide +kernel), (inB 98 (by decide +kernel) (by decide +kernel)), by decide, by decide +kernel, by decide +kernel, by decide +kernel⟩
theorem i_J5_131 : CI RJ5 131 mJx7c733_init_d00df 1 := ⟨⟨cb_Jx7c733_init_d00df _, rfl⟩, (inB 1021 (by decide +kernel) (by decide +kernel)), (inB 1022 (by decide +kernel) (by decide +kernel)), rfl, rfl⟩
theorem cb_J2_newBytesFor_77867 (own : String) : CB own mJ2_newBytesFor_77867 1 := ⟨inB 130 (by decide +kernel) (by decide +kernel), (inB 73 (by decide +kernel) (by decide +kernel)), by decide, by decide +kernel, by decide +kernel, by decide +kernel⟩
theorem s_J5_26 : CS RJ5 26 mJ2_newBytesFor_77867 1 := ⟨⟨cb_J2_newBytesFor_77867 _, rfl⟩, (inB 128 (by decide +kernel) (by decide +kernel)), (inB 129 (by decide +kernel) (by decide +kernel))⟩
theorem cb_J7_copyOf_9075b (own : String) : CB own mJ7_copyOf_9075b 2 := ⟨inB 1057 (by decide +kernel) (by decide +kernel), (inB 100 (by decide +kernel) (by decide +kernel)), by decide, by decide +kernel, by decide +kernel, by decide +kernel⟩
theorem s_J5_108 : CS RJ5 108 mJ7_copyOf_9075b 2 := ⟨⟨cb_J7_copyOf_9075b _, rfl⟩, (inB 1055 (by decide +kernel) (by decide +kernel)), (inB 1056 (by decide +kernel) (by decide +kernel))⟩
theorem cb_J8_newLength_cabcc (own : String) : CB own mJ8_newLength_cabcc 3 := ⟨inB 1048 (by decide +kernel) (by decide +kernel), (inB 99 (by decide +kernel) (by decide +kernel)), by decide, by decide +kernel, by decide +kernel, by decide +kernel⟩
theorem s_J5_114 : CS RJ5 114 mJ8_newLength_cabcc 3 := ⟨⟨cb_J8_newLength_cabcc _, rfl⟩, (inB 1046 (by decide +kernel) (by decide +kernel)), (inB 1047 (by decide +kernel) (by decide +kernel))⟩
theorem s_J5_125 : CS RJ5 125 mJ1_inflate_0e8fd 5 := ⟨⟨cb_J1_inflate_0e8fd _, rfl⟩, (inB 1094 (by decide +kernel) (by decide +kernel)), (inB 1095 (by decide +kernel) (by decide +kernel))⟩
theorem cb_J1_fillNull_b72d1 (own : String) : CB own mJ1_fillNull_b72d1 3 := ⟨inB 1213 (by decide +kernel) (by decide +kernel), (inB 91 (by decide +kernel) (by decide +kernel)), by decide, by decide +kernel, by decide +kernel, by decide +kernel⟩
theorem s_J5_133 : CS RJ5 133 mJ1_fillNull_b72d1 3 := ⟨⟨cb_J1_fillNull_b72d1 _, rfl⟩, (inB 1211 (by decide +kernel) (by decide +kernel)), (inB 1212 (by decide +kernel) (by decide +kernel))⟩
theorem cb_J2_fillNull_b72d1 (own : String) : CB own mJ2_fillNull_b72d1 3 := ⟨inB 1235 (by decide +kernel) (by decide +kernel), (inB 73 (by decide +kernel) (by decide +kernel)), by decide, by decide +kernel, by decide +kernel, by decide +kernel⟩
theorem s_J5_137 : CS RJ5 137 mJ2_fillNull_b72d1 3 := ⟨⟨cb_J2_fillNull_b72d1 _, rfl⟩, (inB 1233 (by decide +kernel) (by decide +kernel)), (inB 1234 (by decide +kernel) (by decide +kernel))⟩
theorem s_J5_138 : CS RJ5 138 mJ9_min_7cf53 2 := ⟨⟨cb_J9_min_7cf53 _, rfl⟩, (inB 1250 (by decide +kernel) (by decide +kernel)), (inB 223 (by decide +kernel) (by decide +kernel))⟩
theorem s_J5_144 : CS RJ5 144 mJ0_checkIndex_df160 2 := ⟨⟨cb_J0_checkIndex_df160 _, rfl⟩, (inB 1251 (by decide +kernel) (by decide +kernel)), (inB 1252 (by decide +kernel) (by decide +kernel))⟩
theorem s_J5_148 : CS RJ5 148 mJ2_getChar_3b067 2 := ⟨⟨cb_J2_getChar_3b067 _, rfl⟩, (inB 1257 (by decide +kernel) (by decide +kernel)), (inB 467 (by decide +kernel) (by decide +kernel))⟩
theorem cb_J1_canEncode_fc78d (own : String) : CB own mJ1_canEncode_fc78d 1 := ⟨inB 1267 (by decide +kernel) (by decide +kernel), (inB 91 (by decide +kernel) (by decide +kernel)), by decide, by decide +kernel, by decide +kernel, by decide +kernel⟩
theorem s_J5_191 : CS RJ5 191 mJ1_canEncode_fc78d 1 := ⟨⟨cb_J1_canEncode_fc78d _, rfl⟩, (inB 1265 (by decide +kernel) (by decide +kernel)), (inB 1266 (by decide +kernel) (by decide +kernel))⟩
theorem cb_J2_putCharSB_b72d1 (own : String) : CB own mJ2_putCharSB_b72d1 3 := ⟨inB 1270 (by decide +kernel) (by decide +kernel), (inB 73 (by decide +kernel) (by decide +kernel)), by decide, by decide +kernel, by decide +kernel, by decide +kernel⟩
theorem s_J5_197 : CS RJ5 197 mJ2_putCharSB_b72d1 3 := ⟨⟨cb_J2_putCharSB_b72d1 _, rfl⟩, (inB 1268 (by decide +kernel) (by decide +kernel)), (inB 1269 (by decide +kernel) (by decide +kernel))⟩
theorem cb_J2_putCharsAt_cd4e5 (own : String) : CB own mJ2_putCharsAt_cd4e5 6 := ⟨inB 1076 (by decide +kernel) (by decide +kernel), (inB 73 (by decide +kernel) (by decide +kernel)), by decide, by decide +kernel, by decide +kernel, by decide +kernel⟩
theorem s_J5_226 : CS RJ5 226 mJ2_putCharsAt_cd4e5 6 := ⟨⟨cb_J2_putCharsAt_cd4e5 _, rfl⟩, (inB 1074 (by decide +kernel) (by decide +kernel)), (inB 1075 (by decide +kernel) (by decide +kernel))⟩
theorem cb_J6_stringSize_0f7a4 (own : String) : CB own mJ6_stringSize_0f7a4 1 := ⟨inB 1124 (by decide +kernel) (by decide +kernel), (inB 79 (by decide +kernel) (by decide +kernel)), by decide, by decide +kernel, by decide +kernel, by decide +kernel⟩
theorem s_J5_245 : CS RJ5 245 mJ6_stringSize_0f7a4 1 := ⟨⟨cb_J6_stringSize_0f7a4 _, rfl⟩, (inB 1122 (by decide +kernel) (by decide +kernel)), (inB 1123 (by decide +kernel) (by decide +kernel))⟩
theorem cb_J6_getChars_ba4f3 (own : String) : CB own mJ6_getChars_ba4f3 3 := ⟨inB 1127 (by decide +kernel) (by decide +kernel), (inB 79 (by decide +kernel) (by decide +kernel)), by decide, by decide +kernel, by decide +kernel, by decide +kernel⟩
theorem s_J5_248 : CS RJ5 248 mJ6_getChars_ba4f3 3 := ⟨⟨cb_J6_getChars_ba4f3 _, rfl⟩, (inB 1125 (by decide +kernel) (by decide +kernel)), (inB 1126 (by decide +kernel) (by decide +kernel))⟩
theorem cb_J2_getChars_46870 (own : String) : CB own mJ2_getChars_46870 4 := ⟨inB 1134 (by decide +kernel) (by decide +kernel), (inB 73 (by decide +kernel) (by decide +kernel)), by decide, by decide +kernel, by decide +kernel, by decide +kernel⟩
theorem s_J5_251 : CS RJ5 251 mJ2_getChars_46870 4 := ⟨⟨cb_J2_getChars_46870 _, rfl⟩, (inB 1132 (by decide +kernel) (by decide +kernel)), (inB 1133 (by decide +kernel) (by decide +kernel))⟩
theorem v_J5_32 : CV RJ5 32 0 mJ0_length_8abf5 0 := ⟨⟨cb_J0_length_8abf5 _, rfl⟩, (inB 1080 (by decide +kernel) (by decide +kernel)), (inB 420 (by decide +kernel) (by decide +kernel)), RJ0, TJ0, 4, (inB 421 (by decide +kernel) (by decide +kernel)), rfl⟩
theorem v_J5_40 : CV RJ5 40 0 mJ0_coder_7d493 0 := ⟨⟨cb_J0_coder_7d493 _, rfl⟩, (inB 1089 (by decide +kernel) (by decide +kernel)), (inB 424 (by decide +kernel) (by decide +kernel)), RJ0, TJ0, 4, (inB 425 (by decide +kernel) (by decide +kernel)), rfl⟩
theorem v_J5_83_1 : CV RJ5 83 1 mJ5_isLatin1_aae02 0 := ⟨⟨cb_J5_isLatin1_aae02 _, rfl⟩, (inB 1069 (by decide +kernel) (by decide +kernel)), (inB 1070 (by decide +kernel) (by decide +kernel)), RJ4, TJ4, 4, (inB 1072 (by decide +kernel) (by decide +kernel)), rfl⟩
theorem cb_J0_getBytes_840e7 (own : String) : CB own mJ0_getBytes_840e7 3 := ⟨inB 1112 (by decide +kernel) (by decide +kernel), (inB 72 (by decide +kernel) (by decide +kernel)), by decide, by decide +kernel, by decide +kernel, by decide +kernel⟩
theorem v_J5_399 : CV RJ5 399 0 mJ0_getBytes_840e7 3 := ⟨⟨cb_J0_getBytes_840e7 _, rfl⟩, (inB 1109 (by decide +kernel) (by decide +kernel)), (inB 1110 (by decide +kernel) (by decide +kernel)), RJ0, TJ0, 4, (inB 1111 (by decide +kernel) (by decide +kernel)), rfl⟩
theorem k_J5_39 : Cond.constant RJ5 39 (2147483647 : Int32) ∈ BIG := (inB 1054 (by decide +kernel) (by decide +kernel))
theorem n_J5_129 : NW RJ5 129 3 6 [.null, .null, .null, .null, .int (J 0), .null] := ⟨RJx7c733, TJx7c733, tyJx7c733, rfl, inw3, tyJx7c733_ok, by decide +kernel, (inB 1019 (by decide +kernel) (by decide +kernel)), (inB 1020 (by decide +kernel) (by decide +kernel)), (inB 98 (by decide +kernel) (by decide +kernel))⟩
theorem p_J5_15 : FP RJ5 1 0 (.array .byte) := ⟨RJ4, TJ4, 4, tyJ4, rfl, tyJ4_ok, nmJ4, tyJ4_ok 0 (by decide), fun h => absurd h (by decide)⟩
theorem ff_1_0 (nm : String) : FF 1 0 nm := fun _ _ _ h1 h2 => by
  cases h1
  exact absurd h2 (by decide)
theorem p_J5_22 : FP RJ5 1 1 (.byte) := ⟨RJ4, TJ4, 4, tyJ4, rfl, tyJ4_ok, nmJ4, tyJ4_ok 1 (by decide), fun h => absurd h (by decide)⟩
theorem ff_1_1 (nm : String) : FF 1 1 nm := fun _ _ _ h1 h2 => by
  cases h1
  exact absurd h2 (by decide)
theorem f_J5_73 : FL RJ5 73 1 2 := ⟨RJ4, TJ4, 4, "java/lang/AbstractStringBuilder", rfl, by decide, inw1, (inB 137 (by decide +kernel) (by decide +kernel)), Or.inl rfl⟩
theorem p_J5_73 : FP RJ5 1 2 (.boolean) := ⟨RJ4, TJ4, 4, tyJ4, rfl, tyJ4_ok, nmJ4, tyJ4_ok 2 (by decide), fun h => absurd h (by decide)⟩
theorem ff_1_2 (nm : String) : FF 1 2 nm := fun _ _ _ h1 h2 => by
  cases h1
  exact absurd h2 (by decide)
theorem p_J5_79 : FP RJ5 1 3 (.int) := ⟨RJ4, TJ4, 4, tyJ4, rfl, tyJ4_ok, nmJ4, tyJ4_ok 3 (by decide), fun h => absurd h (by decide)⟩
theorem ff_1_3 (nm : String) : FF 1 3 nm := fun _ _ _ h1 h2 => by
  cases h1
  exact absurd h2 (by decide)
theorem k_J6_265 : Cond.constant RJ6 265 (1431655765 : Int32) ∈ BIG := (inB 237 (by decide +kernel) (by decide +kernel))
theorem k_J6_266 : Cond.constant RJ6 266 (858993459 : Int32) ∈ BIG := (inB 238 (by decide +kernel) (by decide +kernel))
theorem k_J6_267 : Cond.constant RJ6 267 (252645135 : Int32) ∈ BIG := (inB 239 (by decide +kernel) (by decide +kernel))
theorem cb_J4_init_da8c8 (own : String) : CB own mJ4_init_da8c8 0 := ⟨inB 121 (by decide +kernel) (by decide +kernel), (inB 71 (by decide +kernel) (by decide +kernel)), by decide, by decide +kernel, by decide +kernel, by decide +kernel⟩
theorem i_J7_47 : CI RJ7 47 mJ4_init_da8c8 0 := ⟨⟨cb_J4_init_da8c8 _, rfl⟩, (inB 1177 (by decide +kernel) (by decide +kernel)), (inB 120 (by decide +kernel) (by decide +kernel)), rfl, rfl⟩
theorem cb_Jx00060_init_d00df (own : String) : CB own mJx00060_init_d00df 1 := ⟨inB 1226 (by decide +kernel) (by decide +kernel), (inB 90 (by decide +kernel) (by decide +kernel)), by decide, by decide +kernel, by decide +kernel, by decide +kernel⟩
theorem i_J7_70 : CI RJ7 70 mJx00060_init_d00df 1 := ⟨⟨cb_Jx00060_init_d00df _, rfl⟩, (inB 1224 (by decide +kernel) (by decide +kernel)), (inB 1225 (by decide +kernel) (by decide +kernel)), rfl, rfl⟩
theorem cb_J7_rangeCheck_23922 (own : String) : CB own mJ7_rangeCheck_23922 3 := ⟨inB 1219 (by decide +kernel) (by decide +kernel), (inB 100 (by decide +kernel) (by decide +kernel)), by decide, by decide +kernel, by decide +kernel, by decide +kernel⟩
theorem s_J7_13 : CS RJ7 13 mJ7_rangeCheck_23922 3 := ⟨⟨cb_J7_rangeCheck_23922 _, rfl⟩, (inB 1217 (by decide +kernel) (by decide +kernel)), (inB 1218 (by decide +kernel) (by decide +kernel))⟩
theorem s_J7_304 : CS RJ7 304 mJ9_min_7cf53 2 := ⟨⟨cb_J9_min_7cf53 _, rfl⟩, (inB 1065 (by decide +kernel) (by decide +kernel)), (inB 223 (by decide +kernel) (by decide +kernel))⟩
theorem cb_J7_copyOfRangeByte_39247 (own : String) : CB own mJ7_copyOfRangeByte_39247 3 := ⟨inB 1171 (by decide +kernel) (by decide +kernel), (inB 100 (by decide +kernel) (by decide +kernel)), by decide, by decide +kernel, by decide +kernel, by decide +kernel⟩
theorem s_J7_339 : CS RJ7 339 mJ7_copyOfRangeByte_39247 3 := ⟨⟨cb_J7_copyOfRangeByte_39247 _, rfl⟩, (inB 1169 (by decide +kernel) (by decide +kernel)), (inB 1170 (by decide +kernel) (by decide +kernel))⟩
theorem cb_J7_checkLength_df160 (own : String) : CB own mJ7_checkLength_df160 2 := ⟨inB 1174 (by decide +kernel) (by decide +kernel), (inB 100 (by decide +kernel) (by decide +kernel)), by decide, by decide +kernel, by decide +kernel, by decide +kernel⟩
theorem s_J7_343 : CS RJ7 343 mJ7_checkLength_df160 2 := ⟨⟨cb_J7_checkLength_df160 _, rfl⟩, (inB 1172 (by decide +kernel) (by decide +kernel)), (inB 1173 (by decide +kernel) (by decide +kernel))⟩
theorem cb_J4_append_15ec4 (own : String) : CB own mJ4_append_15ec4 1 := ⟨inB 1030 (by decide +kernel) (by decide +kernel), (inB 71 (by decide +kernel) (by decide +kernel)), by decide, by decide +kernel, by decide +kernel, by decide +kernel⟩
theorem v_J7_50 : CV RJ7 50 1 mJ4_append_15ec4 1 := ⟨⟨cb_J4_append_15ec4 _, rfl⟩, (inB 1180 (by decide +kernel) (by decide +kernel)), (inB 1028 (by decide +kernel) (by decide +kernel)), RJ4, TJ4, 4, (inB 1029 (by decide +kernel) (by decide +kernel)), rfl⟩
theorem cb_J4_append_bf812 (own : String) : CB own mJ4_append_bf812 1 := ⟨inB 1118 (by decide +kernel) (by decide +kernel), (inB 71 (by decide +kernel) (by decide +kernel)), by decide, by decide +kernel, by decide +kernel, by decide +kernel⟩
theorem v_J7_54 : CV RJ7 54 1 mJ4_append_bf812 1 := ⟨⟨cb_J4_append_bf812 _, rfl⟩, (inB 1178 (by decide +kernel) (by decide +kernel)), (inB 1116 (by decide +kernel) (by decide +kernel)), RJ4, TJ4, 4, (inB 1117 (by decide +kernel) (by decide +kernel)), rfl⟩
theorem cb_J4_toString_0e30d (own : String) : CB own mJ4_toString_0e30d 0 := ⟨inB 1143 (by decide +kernel) (by decide +kernel), (inB 71 (by decide +kernel) (by decide +kernel)), by decide, by decide +kernel, by decide +kernel, by decide +kernel⟩
theorem v_J7_61 : CV RJ7 61 1 mJ4_toString_0e30d 0 := ⟨⟨cb_J4_toString_0e30d _, rfl⟩, (inB 1181 (by decide +kernel) (by decide +kernel)), (inB 1141 (by decide +kernel) (by decide +kernel)), RJ4, TJ4, 4, (inB 1142 (by decide +kernel) (by decide +kernel)), rfl⟩
theorem n_J7_45 : NW RJ7 45 1 4 [.null, .int (J 0), .int (J 0), .int (J 0)] := ⟨RJ4, TJ4, tyJ4, rfl, inw1, tyJ4_ok, by decide +kernel, (inB 1176 (by decide +kernel) (by decide +kernel)), (inB 118 (by decide +kernel) (by decide +kernel)), (inB 71 (by decide +kernel) (by decide +kernel))⟩
theorem n_J7_68 : NW RJ7 68 2 6 [.null, .null, .null, .null, .int (J 0), .null] := ⟨RJx00060, TJx00060, tyJx00060, rfl, inw2, tyJx00060_ok, by decide +kernel, (inB 1223 (by decide +kernel) (by decide +kernel)), (inB 672 (by decide +kernel) (by decide +kernel)), (inB 90 (by decide +kernel) (by decide +kernel))⟩
theorem s_J8_194 : CS RJ8 194 mJ9_max_7cf53 2 := ⟨⟨cb_J9_max_7cf53 _, rfl⟩, (inB 1049 (by decide +kernel) (by decide +kernel)), (inB 434 (by decide +kernel) (by decide +kernel))⟩
theorem cb_J8_hugeLength_7cf53 (own : String) : CB own mJ8_hugeLength_7cf53 2 := ⟨inB 1053 (by decide +kernel) (by decide +kernel), (inB 99 (by decide +kernel) (by decide +kernel)), by decide, by decide +kernel, by decide +kernel, by decide +kernel⟩
theorem s_J8_201 : CS RJ8 201 mJ8_hugeLength_7cf53 2 := ⟨⟨cb_J8_hugeLength_7cf53 _, rfl⟩, (inB 1051 (by decide +kernel) (by decide +kernel)), (inB 1052 (by decide +kernel) (by decide +kernel))⟩
theorem k_J8_200 : Cond.constant RJ8 200 (2147483639 : Int32) ∈ BIG := (inB 1050 (by decide +kernel) (by decide +kernel))
theorem i_Jx00060_12 : CI RJx00060 12 mJ4_init_da8c8 0 := ⟨⟨cb_J4_init_da8c8 _, rfl⟩, (inB 1228 (by decide +kernel) (by decide +kernel)), (inB 120 (by decide +kernel) (by decide +kernel)), rfl, rfl⟩
theorem v_Jx00060_15 : CV RJx00060 15 1 mJ4_append_15ec4 1 := ⟨⟨cb_J4_append_15ec4 _, rfl⟩, (inB 1230 (by decide +kernel) (by decide +kernel)), (inB 1028 (by decide +kernel) (by decide +kernel)), RJ4, TJ4, 4, (inB 1029 (by decide +kernel) (by decide +kernel)), rfl⟩
theorem v_Jx00060_19 : CV RJx00060 19 1 mJ4_append_bf812 1 := ⟨⟨cb_J4_append_bf812 _, rfl⟩, (inB 1231 (by decide +kernel) (by decide +kernel)), (inB 1116 (by decide +kernel) (by decide +kernel)), RJ4, TJ4, 4, (inB 1117 (by decide +kernel) (by decide +kernel)), rfl⟩
theorem v_Jx00060_22 : CV RJx00060 22 1 mJ4_toString_0e30d 0 := ⟨⟨cb_J4_toString_0e30d _, rfl⟩, (inB 1232 (by decide +kernel) (by decide +kernel)), (inB 1141 (by decide +kernel) (by decide +kernel)), RJ4, TJ4, 4, (inB 1142 (by decide +kernel) (by decide +kernel)), rfl⟩
theorem n_Jx00060_10 : NW RJx00060 10 1 4 [.null, .int (J 0), .int (J 0), .int (J 0)] := ⟨RJ4, TJ4, tyJ4, rfl, inw1, tyJ4_ok, by decide +kernel, (inB 1227 (by decide +kernel) (by decide +kernel)), (inB 118 (by decide +kernel) (by decide +kernel)), (inB 71 (by decide +kernel) (by decide +kernel))⟩
theorem i_Jx7c733_12 : CI RJx7c733 12 mJ4_init_da8c8 0 := ⟨⟨cb_J4_init_da8c8 _, rfl⟩, (inB 1025 (by decide +kernel) (by decide +kernel)), (inB 120 (by decide +kernel) (by decide +kernel)), rfl, rfl⟩
theorem v_Jx7c733_15 : CV RJx7c733 15 1 mJ4_append_15ec4 1 := ⟨⟨cb_J4_append_15ec4 _, rfl⟩, (inB 1027 (by decide +kernel) (by decide +kernel)), (inB 1028 (by decide +kernel) (by decide +kernel)), RJ4, TJ4, 4, (inB 1029 (by decide +kernel) (by decide +kernel)), rfl⟩
theorem v_Jx7c733_19 : CV RJx7c733 19 1 mJ4_append_bf812 1 := ⟨⟨cb_J4_append_bf812 _, rfl⟩, (inB 1115 (by decide +kernel) (by decide +kernel)), (inB 1116 (by decide +kernel) (by decide +kernel)), RJ4, TJ4, 4, (inB 1117 (by decide +kernel) (by decide +kernel)), rfl⟩
theorem v_Jx7c733_22 : CV RJx7c733 22 1 mJ4_toString_0e30d 0 := ⟨⟨cb_J4_toString_0e30d _, rfl⟩, (inB 1140 (by decide +kernel) (by decide +kernel)), (inB 1141 (by decide +kernel) (by decide +kernel)), RJ4, TJ4, 4, (inB 1142 (by decide +kernel) (by decide +kernel)), rfl⟩
theorem n_Jx7c733_10 : NW RJx7c733 10 1 4 [.null, .int (J 0), .int (J 0), .int (J 0)] := ⟨RJ4, TJ4, tyJ4, rfl, inw1, tyJ4_ok, by decide +kernel, (inB 1024 (by decide +kernel) (by decide +kernel)), (inB 118 (by decide +kernel) (by decide +kernel)), (inB 71 (by decide +kernel) (by decide +kernel))⟩
theorem cb_X9_init (own : String) : CB own mX9_init 0 := ⟨inB 107 (by decide +kernel) (by decide +kernel), (inB 68 (by decide +kernel) (by decide +kernel)), by decide, by decide +kernel, by decide +kernel, by decide +kernel⟩
theorem i_L_120 : CI RL 120 mX9_init 0 := ⟨⟨cb_X9_init _, rfl⟩, (inB 105 (by decide +kernel) (by decide +kernel)), (inB 106 (by decide +kernel) (by decide +kernel)), rfl, rfl⟩
theorem cb_X10_init (own : String) : CB own mX10_init 0 := ⟨inB 1556 (by decide +kernel) (by decide +kernel), (inB 82 (by decide +kernel) (by decide +kernel)), by decide, by decide +kernel, by decide +kernel, by decide +kernel⟩
theorem i_L_123 : CI RL 123 mX10_init 0 := ⟨⟨cb_X10_init _, rfl⟩, (inB 1554 (by decide +kernel) (by decide +kernel)), (inB 1555 (by decide +kernel) (by decide +kernel)), rfl, rfl⟩
theorem cb_L_addCredit (own : String) : CB own mL_addCredit 6 := ⟨inB 520 (by decide +kernel) (by decide +kernel), (inB 67 (by decide +kernel) (by decide +kernel)), by decide, by decide +kernel, by decide +kernel, by decide +kernel⟩
theorem s_L_124 : CSX RL 124 mL_addCredit 6 := ⟨⟨cb_L_addCredit _, rfl⟩, (inB 518 (by decide +kernel) (by decide +kernel)), (inB 519 (by decide +kernel) (by decide +kernel))⟩
theorem cb_L_dropCredit (own : String) : CB own mL_dropCredit 3 := ⟨inB 670 (by decide +kernel) (by decide +kernel), (inB 67 (by decide +kernel) (by decide +kernel)), by decide, by decide +kernel, by decide +kernel, by decide +kernel⟩
theorem s_L_133 : CSX RL 133 mL_dropCredit 3 := ⟨⟨cb_L_dropCredit _, rfl⟩, (inB 668 (by decide +kernel) (by decide +kernel)), (inB 669 (by decide +kernel) (by decide +kernel))⟩
theorem cb_L_credit (own : String) : CB own mL_credit 4 := ⟨inB 732 (by decide +kernel) (by decide +kernel), (inB 67 (by decide +kernel) (by decide +kernel)), by decide, by decide +kernel, by decide +kernel, by decide +kernel⟩
theorem s_L_137 : CSX RL 137 mL_credit 4 := ⟨⟨cb_L_credit _, rfl⟩, (inB 730 (by decide +kernel) (by decide +kernel)), (inB 731 (by decide +kernel) (by decide +kernel))⟩
theorem cb_L_code (own : String) : CB own mL_code 3 := ⟨inB 748 (by decide +kernel) (by decide +kernel), (inB 67 (by decide +kernel) (by decide +kernel)), by decide, by decide +kernel, by decide +kernel, by decide +kernel⟩
theorem s_L_141 : CSX RL 141 mL_code 3 := ⟨⟨cb_L_code _, rfl⟩, (inB 746 (by decide +kernel) (by decide +kernel)), (inB 747 (by decide +kernel) (by decide +kernel))⟩
theorem cb_L_expires (own : String) : CB own mL_expires 4 := ⟨inB 755 (by decide +kernel) (by decide +kernel), (inB 67 (by decide +kernel) (by decide +kernel)), by decide, by decide +kernel, by decide +kernel, by decide +kernel⟩
theorem s_L_144 : CSX RL 144 mL_expires 4 := ⟨⟨cb_L_expires _, rfl⟩, (inB 753 (by decide +kernel) (by decide +kernel)), (inB 754 (by decide +kernel) (by decide +kernel))⟩
theorem cb_L_addEquivalence (own : String) : CB own mL_addEquivalence 6 := ⟨inB 785 (by decide +kernel) (by decide +kernel), (inB 67 (by decide +kernel) (by decide +kernel)), by decide, by decide +kernel, by decide +kernel, by decide +kernel⟩
theorem s_L_147 : CSX RL 147 mL_addEquivalence 6 := ⟨⟨cb_L_addEquivalence _, rfl⟩, (inB 783 (by decide +kernel) (by decide +kernel)), (inB 784 (by decide +kernel) (by decide +kernel))⟩
theorem cb_L_equivalent (own : String) : CB own mL_equivalent 4 := ⟨inB 829 (by decide +kernel) (by decide +kernel), (inB 67 (by decide +kernel) (by decide +kernel)), by decide, by decide +kernel, by decide +kernel, by decide +kernel⟩
theorem s_L_151 : CSX RL 151 mL_equivalent 4 := ⟨⟨cb_L_equivalent _, rfl⟩, (inB 827 (by decide +kernel) (by decide +kernel)), (inB 828 (by decide +kernel) (by decide +kernel))⟩
theorem cb_L_apply (own : String) : CB own mL_apply 3 := ⟨inB 840 (by decide +kernel) (by decide +kernel), (inB 67 (by decide +kernel) (by decide +kernel)), by decide, by decide +kernel, by decide +kernel, by decide +kernel⟩
theorem s_L_154 : CSX RL 154 mL_apply 3 := ⟨⟨cb_L_apply _, rfl⟩, (inB 838 (by decide +kernel) (by decide +kernel)), (inB 839 (by decide +kernel) (by decide +kernel))⟩
theorem cb_L_rootsBy (own : String) : CB own mL_rootsBy 3 := ⟨inB 881 (by decide +kernel) (by decide +kernel), (inB 67 (by decide +kernel) (by decide +kernel)), by decide, by decide +kernel, by decide +kernel, by decide +kernel⟩
theorem s_L_157 : CSX RL 157 mL_rootsBy 3 := ⟨⟨cb_L_rootsBy _, rfl⟩, (inB 879 (by decide +kernel) (by decide +kernel)), (inB 880 (by decide +kernel) (by decide +kernel))⟩
theorem cb_L_bestEquivalence (own : String) : CB own mL_bestEquivalence 2 := ⟨inB 912 (by decide +kernel) (by decide +kernel), (inB 67 (by decide +kernel) (by decide +kernel)), by decide, by decide +kernel, by decide +kernel, by decide +kernel⟩
theorem s_L_160 : CSX RL 160 mL_bestEquivalence 2 := ⟨⟨cb_L_bestEquivalence _, rfl⟩, (inB 910 (by decide +kernel) (by decide +kernel)), (inB 911 (by decide +kernel) (by decide +kernel))⟩
theorem cb_L_append (own : String) : CB own mL_append 2 := ⟨inB 919 (by decide +kernel) (by decide +kernel), (inB 67 (by decide +kernel) (by decide +kernel)), by decide, by decide +kernel, by decide +kernel, by decide +kernel⟩
theorem s_L_164 : CSX RL 164 mL_append 2 := ⟨⟨cb_L_append _, rfl⟩, (inB 917 (by decide +kernel) (by decide +kernel)), (inB 918 (by decide +kernel) (by decide +kernel))⟩
theorem cb_L_readProgram (own : String) : CB own mL_readProgram 2 := ⟨inB 934 (by decide +kernel) (by decide +kernel), (inB 67 (by decide +kernel) (by decide +kernel)), by decide, by decide +kernel, by decide +kernel, by decide +kernel⟩
theorem s_L_168 : CSX RL 168 mL_readProgram 2 := ⟨⟨cb_L_readProgram _, rfl⟩, (inB 932 (by decide +kernel) (by decide +kernel)), (inB 933 (by decide +kernel) (by decide +kernel))⟩
theorem cb_L_refusal (own : String) : CB own mL_refusal 2 := ⟨inB 1309 (by decide +kernel) (by decide +kernel), (inB 67 (by decide +kernel) (by decide +kernel)), by decide, by decide +kernel, by decide +kernel, by decide +kernel⟩
theorem s_L_175 : CSX RL 175 mL_refusal 2 := ⟨⟨cb_L_refusal _, rfl⟩, (inB 1307 (by decide +kernel) (by decide +kernel)), (inB 1308 (by decide +kernel) (by decide +kernel))⟩
theorem cb_L_block (own : String) : CB own mL_block 4 := ⟨inB 1316 (by decide +kernel) (by decide +kernel), (inB 67 (by decide +kernel) (by decide +kernel)), by decide, by decide +kernel, by decide +kernel, by decide +kernel⟩
theorem s_L_178 : CSX RL 178 mL_block 4 := ⟨⟨cb_L_block _, rfl⟩, (inB 1314 (by decide +kernel) (by decide +kernel)), (inB 1315 (by decide +kernel) (by decide +kernel))⟩
theorem cb_L_part (own : String) : CB own mL_part 4 := ⟨inB 1328 (by decide +kernel) (by decide +kernel), (inB 67 (by decide +kernel) (by decide +kernel)), by decide, by decide +kernel, by decide +kernel, by decide +kernel⟩
theorem s_L_181 : CSX RL 181 mL_part 4 := ⟨⟨cb_L_part _, rfl⟩, (inB 1326 (by decide +kernel) (by decide +kernel)), (inB 1327 (by decide +kernel) (by decide +kernel))⟩
theorem cb_L_letter (own : String) : CB own mL_letter 4 := ⟨inB 1339 (by decide +kernel) (by decide +kernel), (inB 67 (by decide +kernel) (by decide +kernel)), by decide, by decide +kernel, by decide +kernel, by decide +kernel⟩
theorem s_L_184 : CSX RL 184 mL_letter 4 := ⟨⟨cb_L_letter _, rfl⟩, (inB 1337 (by decide +kernel) (by decide +kernel)), (inB 1338 (by decide +kernel) (by decide +kernel))⟩
theorem cb_L_accepts (own : String) : CB own mL_accepts 4 := ⟨inB 1357 (by decide +kernel) (by decide +kernel), (inB 67 (by decide +kernel) (by decide +kernel)), by decide, by decide +kernel, by decide +kernel, by decide +kernel⟩
theorem s_L_187 : CSX RL 187 mL_accepts 4 := ⟨⟨cb_L_accepts _, rfl⟩, (inB 1355 (by decide +kernel) (by decide +kernel)), (inB 1356 (by decide +kernel) (by decide +kernel))⟩
theorem cb_L_isMet (own : String) : CB own mL_isMet 3 := ⟨inB 1365 (by decide +kernel) (by decide +kernel), (inB 67 (by decide +kernel) (by decide +kernel)), by decide, by decide +kernel, by decide +kernel, by decide +kernel⟩
theorem s_L_190 : CSX RL 190 mL_isMet 3 := ⟨⟨cb_L_isMet _, rfl⟩, (inB 1363 (by decide +kernel) (by decide +kernel)), (inB 1364 (by decide +kernel) (by decide +kernel))⟩
theorem cb_L_points (own : String) : CB own mL_points 3 := ⟨inB 1384 (by decide +kernel) (by decide +kernel), (inB 67 (by decide +kernel) (by decide +kernel)), by decide, by decide +kernel, by decide +kernel, by decide +kernel⟩
theorem s_L_193 : CSX RL 193 mL_points 3 := ⟨⟨cb_L_points _, rfl⟩, (inB 1382 (by decide +kernel) (by decide +kernel)), (inB 1383 (by decide +kernel) (by decide +kernel))⟩
theorem cb_L_lacks (own : String) : CB own mL_lacks 3 := ⟨inB 1400 (by decide +kernel) (by decide +kernel), (inB 67 (by decide +kernel) (by decide +kernel)), by decide, by decide +kernel, by decide +kernel, by decide +kernel⟩
theorem s_L_196 : CSX RL 196 mL_lacks 3 := ⟨⟨cb_L_lacks _, rfl⟩, (inB 1398 (by decide +kernel) (by decide +kernel)), (inB 1399 (by decide +kernel) (by decide +kernel))⟩
theorem cb_L_rootsWith (own : String) : CB own mL_rootsWith 6 := ⟨inB 1408 (by decide +kernel) (by decide +kernel), (inB 67 (by decide +kernel) (by decide +kernel)), by decide, by decide +kernel, by decide +kernel, by decide +kernel⟩
theorem s_L_204 : CSX RL 204 mL_rootsWith 6 := ⟨⟨cb_L_rootsWith _, rfl⟩, (inB 1406 (by decide +kernel) (by decide +kernel)), (inB 1407 (by decide +kernel) (by decide +kernel))⟩
theorem cb_L_lapses (own : String) : CB own mL_lapses 2 := ⟨inB 1415 (by decide +kernel) (by decide +kernel), (inB 67 (by decide +kernel) (by decide +kernel)), by decide, by decide +kernel, by decide +kernel, by decide +kernel⟩
theorem s_L_207 : CSX RL 207 mL_lapses 2 := ⟨⟨cb_L_lapses _, rfl⟩, (inB 1413 (by decide +kernel) (by decide +kernel)), (inB 1414 (by decide +kernel) (by decide +kernel))⟩
theorem cb_L_layers (own : String) : CB own mL_layers 3 := ⟨inB 1432 (by decide +kernel) (by decide +kernel), (inB 67 (by decide +kernel) (by decide +kernel)), by decide, by decide +kernel, by decide +kernel, by decide +kernel⟩
theorem s_L_210 : CSX RL 210 mL_layers 3 := ⟨⟨cb_L_layers _, rfl⟩, (inB 1430 (by decide +kernel) (by decide +kernel)), (inB 1431 (by decide +kernel) (by decide +kernel))⟩
theorem cb_L_why (own : String) : CB own mL_why 5 := ⟨inB 1465 (by decide +kernel) (by decide +kernel), (inB 67 (by decide +kernel) (by decide +kernel)), by decide, by decide +kernel, by decide +kernel, by decide +kernel⟩
theorem s_L_213 : CSX RL 213 mL_why 5 := ⟨⟨cb_L_why _, rfl⟩, (inB 1463 (by decide +kernel) (by decide +kernel)), (inB 1464 (by decide +kernel) (by decide +kernel))⟩
theorem cb_L_pass (own : String) : CB own mL_pass 3 := ⟨inB 1472 (by decide +kernel) (by decide +kernel), (inB 67 (by decide +kernel) (by decide +kernel)), by decide, by decide +kernel, by decide +kernel, by decide +kernel⟩
theorem s_L_217 : CSX RL 217 mL_pass 3 := ⟨⟨cb_L_pass _, rfl⟩, (inB 1470 (by decide +kernel) (by decide +kernel)), (inB 1471 (by decide +kernel) (by decide +kernel))⟩
theorem cb_L_account (own : String) : CB own mL_account 3 := ⟨inB 1479 (by decide +kernel) (by decide +kernel), (inB 67 (by decide +kernel) (by decide +kernel)), by decide, by decide +kernel, by decide +kernel, by decide +kernel⟩
theorem s_L_224 : CSX RL 224 mL_account 3 := ⟨⟨cb_L_account _, rfl⟩, (inB 1477 (by decide +kernel) (by decide +kernel)), (inB 1478 (by decide +kernel) (by decide +kernel))⟩
theorem cb_L_meanGrade (own : String) : CB own mL_meanGrade 2 := ⟨inB 1502 (by decide +kernel) (by decide +kernel), (inB 67 (by decide +kernel) (by decide +kernel)), by decide, by decide +kernel, by decide +kernel, by decide +kernel⟩
theorem s_L_227 : CSX RL 227 mL_meanGrade 2 := ⟨⟨cb_L_meanGrade _, rfl⟩, (inB 1500 (by decide +kernel) (by decide +kernel)), (inB 1501 (by decide +kernel) (by decide +kernel))⟩
theorem cb_L_undo (own : String) : CB own mL_undo 2 := ⟨inB 1532 (by decide +kernel) (by decide +kernel), (inB 67 (by decide +kernel) (by decide +kernel)), by decide, by decide +kernel, by decide +kernel, by decide +kernel⟩
theorem s_L_231 : CSX RL 231 mL_undo 2 := ⟨⟨cb_L_undo _, rfl⟩, (inB 1530 (by decide +kernel) (by decide +kernel)), (inB 1531 (by decide +kernel) (by decide +kernel))⟩
theorem cb_L_restore (own : String) : CB own mL_restore 1 := ⟨inB 1543 (by decide +kernel) (by decide +kernel), (inB 67 (by decide +kernel) (by decide +kernel)), by decide, by decide +kernel, by decide +kernel, by decide +kernel⟩
theorem s_L_238 : CSX RL 238 mL_restore 1 := ⟨⟨cb_L_restore _, rfl⟩, (inB 1541 (by decide +kernel) (by decide +kernel)), (inB 1542 (by decide +kernel) (by decide +kernel))⟩
theorem cb_X9_addCredit (own : String) : CB own mX9_addCredit 4 := ⟨inB 526 (by decide +kernel) (by decide +kernel), (inB 68 (by decide +kernel) (by decide +kernel)), by decide, by decide +kernel, by decide +kernel, by decide +kernel⟩
theorem v_L_7 : CV RL 7 13 mX9_addCredit 4 := ⟨⟨cb_X9_addCredit _, rfl⟩, (inB 523 (by decide +kernel) (by decide +kernel)), (inB 524 (by decide +kernel) (by decide +kernel)), RX9, TX9, 9, (inB 525 (by decide +kernel) (by decide +kernel)), rfl⟩
theorem cb_X9_dropCredit (own : String) : CB own mX9_dropCredit 1 := ⟨inB 706 (by decide +kernel) (by decide +kernel), (inB 68 (by decide +kernel) (by decide +kernel)), by decide, by decide +kernel, by decide +kernel, by decide +kernel⟩
theorem v_L_17 : CV RL 17 13 mX9_dropCredit 1 := ⟨⟨cb_X9_dropCredit _, rfl⟩, (inB 703 (by decide +kernel) (by decide +kernel)), (inB 704 (by decide +kernel) (by decide +kernel)), RX9, TX9, 9, (inB 705 (by decide +kernel) (by decide +kernel)), rfl⟩
theorem cb_X9_credit (own : String) : CB own mX9_credit 2 := ⟨inB 736 (by decide +kernel) (by decide +kernel), (inB 68 (by decide +kernel) (by decide +kernel)), by decide, by decide +kernel, by decide +kernel, by decide +kernel⟩
theorem v_L_23 : CV RL 23 13 mX9_credit 2 := ⟨⟨cb_X9_credit _, rfl⟩, (inB 733 (by decide +kernel) (by decide +kernel)), (inB 734 (by decide +kernel) (by decide +kernel)), RX9, TX9, 9, (inB 735 (by decide +kernel) (by decide +kernel)), rfl⟩
theorem cb_X9_code (own : String) : CB own mX9_code 1 := ⟨inB 752 (by decide +kernel) (by decide +kernel), (inB 68 (by decide +kernel) (by decide +kernel)), by decide, by decide +kernel, by decide +kernel, by decide +kernel⟩
theorem v_L_27 : CV RL 27 13 mX9_code 1 := ⟨⟨cb_X9_code _, rfl⟩, (inB 749 (by decide +kernel) (by decide +kernel)), (inB 750 (by decide +kernel) (by decide +kernel)), RX9, TX9, 9, (inB 751 (by decide +kernel) (by decide +kernel)), rfl⟩
theorem cb_X9_expires (own : String) : CB own mX9_expires 2 := ⟨inB 760 (by decide +kernel) (by decide +kernel), (inB 68 (by decide +kernel) (by decide +kernel)), by decide, by decide +kernel, by decide +kernel, by decide +kernel⟩
theorem v_L_31 : CV RL 31 13 mX9_expires 2 := ⟨⟨cb_X9_expires _, rfl⟩, (inB 757 (by decide +kernel) (by decide +kernel)), (inB 758 (by decide +kernel) (by decide +kernel)), RX9, TX9, 9, (inB 759 (by decide +kernel) (by decide +kernel)), rfl⟩
theorem cb_X9_addEquivalence (own : String) : CB own mX9_addEquivalence 4 := ⟨inB 789 (by decide +kernel) (by decide +kernel), (inB 68 (by decide +kernel) (by decide +kernel)), by decide, by decide +kernel, by decide +kernel, by decide +kernel⟩
theorem v_L_36 : CV RL 36 13 mX9_addEquivalence 4 := ⟨⟨cb_X9_addEquivalence _, rfl⟩, (inB 786 (by decide +kernel) (by decide +kernel)), (inB 787 (by decide +kernel) (by decide +kernel)), RX9, TX9, 9, (inB 788 (by decide +kernel) (by decide +kernel)), rfl⟩
theorem cb_X9_equivalent (own : String) : CB own mX9_equivalent 2 := ⟨inB 833 (by decide +kernel) (by decide +kernel), (inB 68 (by decide +kernel) (by decide +kernel)), by decide, by decide +kernel, by decide +kernel, by decide +kernel⟩
theorem v_L_40 : CV RL 40 13 mX9_equivalent 2 := ⟨⟨cb_X9_equivalent _, rfl⟩, (inB 830 (by decide +kernel) (by decide +kernel)), (inB 831 (by decide +kernel) (by decide +kernel)), RX9, TX9, 9, (inB 832 (by decide +kernel) (by decide +kernel)), rfl⟩
theorem cb_X9_apply (own : String) : CB own mX9_apply 1 := ⟨inB 844 (by decide +kernel) (by decide +kernel), (inB 68 (by decide +kernel) (by decide +kernel)), by decide, by decide +kernel, by decide +kernel, by decide +kernel⟩
theorem v_L_44 : CV RL 44 13 mX9_apply 1 := ⟨⟨cb_X9_apply _, rfl⟩, (inB 841 (by decide +kernel) (by decide +kernel)), (inB 842 (by decide +kernel) (by decide +kernel)), RX9, TX9, 9, (inB 843 (by decide +kernel) (by decide +kernel)), rfl⟩
theorem cb_X9_rootsBy (own : String) : CB own mX9_rootsBy 1 := ⟨inB 886 (by decide +kernel) (by decide +kernel), (inB 68 (by decide +kernel) (by decide +kernel)), by decide, by decide +kernel, by decide +kernel, by decide +kernel⟩
theorem v_L_47 : CV RL 47 13 mX9_rootsBy 1 := ⟨⟨cb_X9_rootsBy _, rfl⟩, (inB 883 (by decide +kernel) (by decide +kernel)), (inB 884 (by decide +kernel) (by decide +kernel)), RX9, TX9, 9, (inB 885 (by decide +kernel) (by decide +kernel)), rfl⟩
theorem cb_X9_bestEquivalence (own : String) : CB own mX9_bestEquivalence 0 := ⟨inB 916 (by decide +kernel) (by decide +kernel), (inB 68 (by decide +kernel) (by decide +kernel)), by decide, by decide +kernel, by decide +kernel, by decide +kernel⟩
theorem v_L_52 : CV RL 52 13 mX9_bestEquivalence 0 := ⟨⟨cb_X9_bestEquivalence _, rfl⟩, (inB 913 (by decide +kernel) (by decide +kernel)), (inB 914 (by decide +kernel) (by decide +kernel)), RX9, TX9, 9, (inB 915 (by decide +kernel) (by decide +kernel)), rfl⟩
theorem cb_X9_append (own : String) : CB own mX9_append 1 := ⟨inB 923 (by decide +kernel) (by decide +kernel), (inB 68 (by decide +kernel) (by decide +kernel)), by decide, by decide +kernel, by decide +kernel, by decide +kernel⟩
theorem v_L_56 : CV RL 56 13 mX9_append 1 := ⟨⟨cb_X9_append _, rfl⟩, (inB 920 (by decide +kernel) (by decide +kernel)), (inB 921 (by decide +kernel) (by decide +kernel)), RX9, TX9, 9, (inB 922 (by decide +kernel) (by decide +kernel)), rfl⟩
theorem cb_X9_readProgram (own : String) : CB own mX9_readProgram 0 := ⟨inB 938 (by decide +kernel) (by decide +kernel), (inB 68 (by decide +kernel) (by decide +kernel)), by decide, by decide +kernel, by decide +kernel, by decide +kernel⟩
theorem v_L_60 : CV RL 60 13 mX9_readProgram 0 := ⟨⟨cb_X9_readProgram _, rfl⟩, (inB 935 (by decide +kernel) (by decide +kernel)), (inB 936 (by decide +kernel) (by decide +kernel)), RX9, TX9, 9, (inB 937 (by decide +kernel) (by decide +kernel)), rfl⟩
theorem cb_X9_refusal (own : String) : CB own mX9_refusal 0 := ⟨inB 1313 (by decide +kernel) (by decide +kernel), (inB 68 (by decide +kernel) (by decide +kernel)), by decide, by decide +kernel, by decide +kernel, by decide +kernel⟩
theorem v_L_63 : CV RL 63 13 mX9_refusal 0 := ⟨⟨cb_X9_refusal _, rfl⟩, (inB 1310 (by decide +kernel) (by decide +kernel)), (inB 1311 (by decide +kernel) (by decide +kernel)), RX9, TX9, 9, (inB 1312 (by decide +kernel) (by decide +kernel)), rfl⟩
theorem cb_X9_block (own : String) : CB own mX9_block 2 := ⟨inB 1320 (by decide +kernel) (by decide +kernel), (inB 68 (by decide +kernel) (by decide +kernel)), by decide, by decide +kernel, by decide +kernel, by decide +kernel⟩
theorem v_L_66 : CV RL 66 13 mX9_block 2 := ⟨⟨cb_X9_block _, rfl⟩, (inB 1317 (by decide +kernel) (by decide +kernel)), (inB 1318 (by decide +kernel) (by decide +kernel)), RX9, TX9, 9, (inB 1319 (by decide +kernel) (by decide +kernel)), rfl⟩
theorem cb_X9_part (own : String) : CB own mX9_part 2 := ⟨inB 1332 (by decide +kernel) (by decide +kernel), (inB 68 (by decide +kernel) (by decide +kernel)), by decide, by decide +kernel, by decide +kernel, by decide +kernel⟩
theorem v_L_69 : CV RL 69 13 mX9_part 2 := ⟨⟨cb_X9_part _, rfl⟩, (inB 1329 (by decide +kernel) (by decide +kernel)), (inB 1330 (by decide +kernel) (by decide +kernel)), RX9, TX9, 9, (inB 1331 (by decide +kernel) (by decide +kernel)), rfl⟩
theorem cb_X9_letter (own : String) : CB own mX9_letter 2 := ⟨inB 1343 (by decide +kernel) (by decide +kernel), (inB 68 (by decide +kernel) (by decide +kernel)), by decide, by decide +kernel, by decide +kernel, by decide +kernel⟩
theorem v_L_72 : CV RL 72 13 mX9_letter 2 := ⟨⟨cb_X9_letter _, rfl⟩, (inB 1340 (by decide +kernel) (by decide +kernel)), (inB 1341 (by decide +kernel) (by decide +kernel)), RX9, TX9, 9, (inB 1342 (by decide +kernel) (by decide +kernel)), rfl⟩
theorem cb_X9_accepts (own : String) : CB own mX9_accepts 2 := ⟨inB 1361 (by decide +kernel) (by decide +kernel), (inB 68 (by decide +kernel) (by decide +kernel)), by decide, by decide +kernel, by decide +kernel, by decide +kernel⟩
theorem v_L_75 : CV RL 75 13 mX9_accepts 2 := ⟨⟨cb_X9_accepts _, rfl⟩, (inB 1358 (by decide +kernel) (by decide +kernel)), (inB 1359 (by decide +kernel) (by decide +kernel)), RX9, TX9, 9, (inB 1360 (by decide +kernel) (by decide +kernel)), rfl⟩
theorem cb_X9_isMet (own : String) : CB own mX9_isMet 1 := ⟨inB 1369 (by decide +kernel) (by decide +kernel), (inB 68 (by decide +kernel) (by decide +kernel)), by decide, by decide +kernel, by decide +kernel, by decide +kernel⟩
theorem v_L_79 : CV RL 79 13 mX9_isMet 1 := ⟨⟨cb_X9_isMet _, rfl⟩, (inB 1366 (by decide +kernel) (by decide +kernel)), (inB 1367 (by decide +kernel) (by decide +kernel)), RX9, TX9, 9, (inB 1368 (by decide +kernel) (by decide +kernel)), rfl⟩
theorem cb_X9_points (own : String) : CB own mX9_points 1 := ⟨inB 1388 (by decide +kernel) (by decide +kernel), (inB 68 (by decide +kernel) (by decide +kernel)), by decide, by decide +kernel, by decide +kernel, by decide +kernel⟩
theorem v_L_83 : CV RL 83 13 mX9_points 1 := ⟨⟨cb_X9_points _, rfl⟩, (inB 1385 (by decide +kernel) (by decide +kernel)), (inB 1386 (by decide +kernel) (by decide +kernel)), RX9, TX9, 9, (inB 1387 (by decide +kernel) (by decide +kernel)), rfl⟩
theorem cb_X9_lacks (own : String) : CB own mX9_lacks 1 := ⟨inB 1404 (by decide +kernel) (by decide +kernel), (inB 68 (by decide +kernel) (by decide +kernel)), by decide, by decide +kernel, by decide +kernel, by decide +kernel⟩
theorem v_L_86 : CV RL 86 13 mX9_lacks 1 := ⟨⟨cb_X9_lacks _, rfl⟩, (inB 1401 (by decide +kernel) (by decide +kernel)), (inB 1402 (by decide +kernel) (by decide +kernel)), RX9, TX9, 9, (inB 1403 (by decide +kernel) (by decide +kernel)), rfl⟩
theorem cb_X9_rootsWith (own : String) : CB own mX9_rootsWith 4 := ⟨inB 1412 (by decide +kernel) (by decide +kernel), (inB 68 (by decide +kernel) (by decide +kernel)), by decide, by decide +kernel, by decide +kernel, by decide +kernel⟩
theorem v_L_89 : CV RL 89 13 mX9_rootsWith 4 := ⟨⟨cb_X9_rootsWith _, rfl⟩, (inB 1409 (by decide +kernel) (by decide +kernel)), (inB 1410 (by decide +kernel) (by decide +kernel)), RX9, TX9, 9, (inB 1411 (by decide +kernel) (by decide +kernel)), rfl⟩
theorem cb_X9_lapses (own : String) : CB own mX9_lapses 0 := ⟨inB 1419 (by decide +kernel) (by decide +kernel), (inB 68 (by decide +kernel) (by decide +kernel)), by decide, by decide +kernel, by decide +kernel, by decide +kernel⟩
theorem v_L_92 : CV RL 92 13 mX9_lapses 0 := ⟨⟨cb_X9_lapses _, rfl⟩, (inB 1416 (by decide +kernel) (by decide +kernel)), (inB 1417 (by decide +kernel) (by decide +kernel)), RX9, TX9, 9, (inB 1418 (by decide +kernel) (by decide +kernel)), rfl⟩
theorem cb_X9_layers (own : String) : CB own mX9_layers 1 := ⟨inB 1436 (by decide +kernel) (by decide +kernel), (inB 68 (by decide +kernel) (by decide +kernel)), by decide, by decide +kernel, by decide +kernel, by decide +kernel⟩
theorem v_L_95 : CV RL 95 13 mX9_layers 1 := ⟨⟨cb_X9_layers _, rfl⟩, (inB 1433 (by decide +kernel) (by decide +kernel)), (inB 1434 (by decide +kernel) (by decide +kernel)), RX9, TX9, 9, (inB 1435 (by decide +kernel) (by decide +kernel)), rfl⟩
theorem cb_X9_why (own : String) : CB own mX9_why 3 := ⟨inB 1469 (by decide +kernel) (by decide +kernel), (inB 68 (by decide +kernel) (by decide +kernel)), by decide, by decide +kernel, by decide +kernel, by decide +kernel⟩
theorem v_L_98 : CV RL 98 13 mX9_why 3 := ⟨⟨cb_X9_why _, rfl⟩, (inB 1466 (by decide +kernel) (by decide +kernel)), (inB 1467 (by decide +kernel) (by decide +kernel)), RX9, TX9, 9, (inB 1468 (by decide +kernel) (by decide +kernel)), rfl⟩
theorem cb_X9_pass (own : String) : CB own mX9_pass 1 := ⟨inB 1476 (by decide +kernel) (by decide +kernel), (inB 68 (by decide +kernel) (by decide +kernel)), by decide, by decide +kernel, by decide +kernel, by decide +kernel⟩
theorem v_L_102 : CV RL 102 13 mX9_pass 1 := ⟨⟨cb_X9_pass _, rfl⟩, (inB 1473 (by decide +kernel) (by decide +kernel)), (inB 1474 (by decide +kernel) (by decide +kernel)), RX9, TX9, 9, (inB 1475 (by decide +kernel) (by decide +kernel)), rfl⟩
theorem cb_X9_account (own : String) : CB own mX9_account 1 := ⟨inB 1483 (by decide +kernel) (by decide +kernel), (inB 68 (by decide +kernel) (by decide +kernel)), by decide, by decide +kernel, by decide +kernel, by decide +kernel⟩
theorem v_L_105 : CV RL 105 13 mX9_account 1 := ⟨⟨cb_X9_account _, rfl⟩, (inB 1480 (by decide +kernel) (by decide +kernel)), (inB 1481 (by decide +kernel) (by decide +kernel)), RX9, TX9, 9, (inB 1482 (by decide +kernel) (by decide +kernel)), rfl⟩
theorem cb_X9_meanGrade (own : String) : CB own mX9_meanGrade 0 := ⟨inB 1520 (by decide +kernel) (by decide +kernel), (inB 68 (by decide +kernel) (by decide +kernel)), by decide, by decide +kernel, by decide +kernel, by decide +kernel⟩
theorem v_L_108 : CV RL 108 13 mX9_meanGrade 0 := ⟨⟨cb_X9_meanGrade _, rfl⟩, (inB 1517 (by decide +kernel) (by decide +kernel)), (inB 1518 (by decide +kernel) (by decide +kernel)), RX9, TX9, 9, (inB 1519 (by decide +kernel) (by decide +kernel)), rfl⟩
theorem cb_X9_undo (own : String) : CB own mX9_undo 0 := ⟨inB 1536 (by decide +kernel) (by decide +kernel), (inB 68 (by decide +kernel) (by decide +kernel)), by decide, by decide +kernel, by decide +kernel, by decide +kernel⟩
theorem v_L_114 : CV RL 114 13 mX9_undo 0 := ⟨⟨cb_X9_undo _, rfl⟩, (inB 1533 (by decide +kernel) (by decide +kernel)), (inB 1534 (by decide +kernel) (by decide +kernel)), RX9, TX9, 9, (inB 1535 (by decide +kernel) (by decide +kernel)), rfl⟩
theorem cb_X9_restore (own : String) : CB own mX9_restore 0 := ⟨inB 1547 (by decide +kernel) (by decide +kernel), (inB 68 (by decide +kernel) (by decide +kernel)), by decide, by decide +kernel, by decide +kernel, by decide +kernel⟩
theorem v_L_117 : CV RL 117 13 mX9_restore 0 := ⟨⟨cb_X9_restore _, rfl⟩, (inB 1544 (by decide +kernel) (by decide +kernel)), (inB 1545 (by decide +kernel) (by decide +kernel)), RX9, TX9, 9, (inB 1546 (by decide +kernel) (by decide +kernel)), rfl⟩
theorem cb_X10_addCredit (own : String) : CB own mX10_addCredit 4 := ⟨inB 1663 (by decide +kernel) (by decide +kernel), (inB 82 (by decide +kernel) (by decide +kernel)), by decide, by decide +kernel, by decide +kernel, by decide +kernel⟩
theorem v_L_129 : CV RL 129 14 mX10_addCredit 4 := ⟨⟨cb_X10_addCredit _, rfl⟩, (inB 1660 (by decide +kernel) (by decide +kernel)), (inB 1661 (by decide +kernel) (by decide +kernel)), RX10, TX10, 27, (inB 1662 (by decide +kernel) (by decide +kernel)), rfl⟩
theorem cb_X10_thrown (own : String) : CB own mX10_thrown 0 := ⟨inB 1644 (by decide +kernel) (by decide +kernel), (inB 82 (by decide +kernel) (by decide +kernel)), by decide, by decide +kernel, by decide +kernel, by decide +kernel⟩
theorem v_L_130 : CV RL 130 14 mX10_thrown 0 := ⟨⟨cb_X10_thrown _, rfl⟩, (inB 1641 (by decide +kernel) (by decide +kernel)), (inB 1642 (by decide +kernel) (by decide +kernel)), RX10, TX10, 27, (inB 1643 (by decide +kernel) (by decide +kernel)), rfl⟩
theorem cb_X10_dropCredit (own : String) : CB own mX10_dropCredit 1 := ⟨inB 1699 (by decide +kernel) (by decide +kernel), (inB 82 (by decide +kernel) (by decide +kernel)), by decide, by decide +kernel, by decide +kernel, by decide +kernel⟩
theorem v_L_136 : CV RL 136 14 mX10_dropCredit 1 := ⟨⟨cb_X10_dropCredit _, rfl⟩, (inB 1696 (by decide +kernel) (by decide +kernel)), (inB 1697 (by decide +kernel) (by decide +kernel)), RX10, TX10, 27, (inB 1698 (by decide +kernel) (by decide +kernel)), rfl⟩
theorem cb_X10_credit (own : String) : CB own mX10_credit 2 := ⟨inB 1711 (by decide +kernel) (by decide +kernel), (inB 82 (by decide +kernel) (by decide +kernel)), by decide, by decide +kernel, by decide +kernel, by decide +kernel⟩
theorem v_L_140 : CV RL 140 14 mX10_credit 2 := ⟨⟨cb_X10_credit _, rfl⟩, (inB 1708 (by decide +kernel) (by decide +kernel)), (inB 1709 (by decide +kernel) (by decide +kernel)), RX10, TX10, 27, (inB 1710 (by decide +kernel) (by decide +kernel)), rfl⟩
theorem cb_X10_code (own : String) : CB own mX10_code 1 := ⟨inB 1754 (by decide +kernel) (by decide +kernel), (inB 82 (by decide +kernel) (by decide +kernel)), by decide, by decide +kernel, by decide +kernel, by decide +kernel⟩
theorem v_L_143 : CV RL 143 14 mX10_code 1 := ⟨⟨cb_X10_code _, rfl⟩, (inB 1751 (by decide +kernel) (by decide +kernel)), (inB 1752 (by decide +kernel) (by decide +kernel)), RX10, TX10, 27, (inB 1753 (by decide +kernel) (by decide +kernel)), rfl⟩
theorem cb_X10_expires (own : String) : CB own mX10_expires 2 := ⟨inB 1758 (by decide +kernel) (by decide +kernel), (inB 82 (by decide +kernel) (by decide +kernel)), by decide, by decide +kernel, by decide +kernel, by decide +kernel⟩
theorem v_L_146 : CV RL 146 14 mX10_expires 2 := ⟨⟨cb_X10_expires _, rfl⟩, (inB 1755 (by decide +kernel) (by decide +kernel)), (inB 1756 (by decide +kernel) (by decide +kernel)), RX10, TX10, 27, (inB 1757 (by decide +kernel) (by decide +kernel)), rfl⟩
theorem cb_X10_addEquivalence (own : String) : CB own mX10_addEquivalence 4 := ⟨inB 1766 (by decide +kernel) (by decide +kernel), (inB 82 (by decide +kernel) (by decide +kernel)), by decide, by decide +kernel, by decide +kernel, by decide +kernel⟩
theorem v_L_150 : CV RL 150 14 mX10_addEquivalence 4 := ⟨⟨cb_X10_addEquivalence _, rfl⟩, (inB 1763 (by decide +kernel) (by decide +kernel)), (inB 1764 (by decide +kernel) (by decide +kernel)), RX10, TX10, 27, (inB 1765 (by decide +kernel) (by decide +kernel)), rfl⟩
theorem cb_X10_equivalent (own : String) : CB own mX10_equivalent 2 := ⟨inB 1773 (by decide +kernel) (by decide +kernel), (inB 82 (by decide +kernel) (by decide +kernel)), by decide, by decide +kernel, by decide +kernel, by decide +kernel⟩
theorem v_L_153 : CV RL 153 14 mX10_equivalent 2 := ⟨⟨cb_X10_equivalent _, rfl⟩, (inB 1770 (by decide +kernel) (by decide +kernel)), (inB 1771 (by decide +kernel) (by decide +kernel)), RX10, TX10, 27, (inB 1772 (by decide +kernel) (by decide +kernel)), rfl⟩
theorem cb_X10_apply (own : String) : CB own mX10_apply 1 := ⟨inB 1781 (by decide +kernel) (by decide +kernel), (inB 82 (by decide +kernel) (by decide +kernel)), by decide, by decide +kernel, by decide +kernel, by decide +kernel⟩
theorem v_L_156 : CV RL 156 14 mX10_apply 1 := ⟨⟨cb_X10_apply _, rfl⟩, (inB 1778 (by decide +kernel) (by decide +kernel)), (inB 1779 (by decide +kernel) (by decide +kernel)), RX10, TX10, 27, (inB 1780 (by decide +kernel) (by decide +kernel)), rfl⟩
theorem cb_X10_rootsBy (own : String) : CB own mX10_rootsBy 1 := ⟨inB 1797 (by decide +kernel) (by decide +kernel), (inB 82 (by decide +kernel) (by decide +kernel)), by decide, by decide +kernel, by decide +kernel, by decide +kernel⟩
theorem v_L_159 : CV RL 159 14 mX10_rootsBy 1 := ⟨⟨cb_X10_rootsBy _, rfl⟩, (inB 1794 (by decide +kernel) (by decide +kernel)), (inB 1795 (by decide +kernel) (by decide +kernel)), RX10, TX10, 27, (inB 1796 (by decide +kernel) (by decide +kernel)), rfl⟩
theorem cb_X10_bestEquivalence (own : String) : CB own mX10_bestEquivalence 0 := ⟨inB 1809 (by decide +kernel) (by decide +kernel), (inB 82 (by decide +kernel) (by decide +kernel)), by decide, by decide +kernel, by decide +kernel, by decide +kernel⟩
theorem v_L_163 : CV RL 163 14 mX10_bestEquivalence 0 := ⟨⟨cb_X10_bestEquivalence _, rfl⟩, (inB 1806 (by decide +kernel) (by decide +kernel)), (inB 1807 (by decide +kernel) (by decide +kernel)), RX10, TX10, 27, (inB 1808 (by decide +kernel) (by decide +kernel)), rfl⟩
theorem cb_X10_append (own : String) : CB own mX10_append 1 := ⟨inB 1813 (by decide +kernel) (by decide +kernel), (inB 82 (by decide +kernel) (by decide +kernel)), by decide, by decide +kernel, by decide +kernel, by decide +kernel⟩
theorem v_L_167 : CV RL 167 14 mX10_append 1 := ⟨⟨cb_X10_append _, rfl⟩, (inB 1810 (by decide +kernel) (by decide +kernel)), (inB 1811 (by decide +kernel) (by decide +kernel)), RX10, TX10, 27, (inB 1812 (by decide +kernel) (by decide +kernel)), rfl⟩
theorem cb_X10_readProgram (own : String) : CB own mX10_readProgram 0 := ⟨inB 1817 (by decide +kernel) (by decide +kernel), (inB 82 (by decide +kernel) (by decide +kernel)), by decide, by decide +kernel, by decide +kernel, by decide +kernel⟩
theorem v_L_170 : CV RL 170 14 mX10_readProgram 0 := ⟨⟨cb_X10_readProgram _, rfl⟩, (inB 1814 (by decide +kernel) (by decide +kernel)), (inB 1815 (by decide +kernel) (by decide +kernel)), RX10, TX10, 27, (inB 1816 (by decide +kernel) (by decide +kernel)), rfl⟩
theorem cb_X9_faultPosition (own : String) : CB own mX9_faultPosition 0 := ⟨inB 376 (by decide +kernel) (by decide +kernel), (inB 68 (by decide +kernel) (by decide +kernel)), by decide, by decide +kernel, by decide +kernel, by decide +kernel⟩
theorem v_L_171 : CV RL 171 13 mX9_faultPosition 0 := ⟨⟨cb_X9_faultPosition _, rfl⟩, (inB 373 (by decide +kernel) (by decide +kernel)), (inB 374 (by decide +kernel) (by decide +kernel)), RX9, TX9, 9, (inB 375 (by decide +kernel) (by decide +kernel)), rfl⟩
theorem cb_X10_faultPosition (own : String) : CB own mX10_faultPosition 0 := ⟨inB 1864 (by decide +kernel) (by decide +kernel), (inB 82 (by decide +kernel) (by decide +kernel)), by decide, by decide +kernel, by decide +kernel, by decide +kernel⟩
theorem v_L_174 : CV RL 174 14 mX10_faultPosition 0 := ⟨⟨cb_X10_faultPosition _, rfl⟩, (inB 1861 (by decide +kernel) (by decide +kernel)), (inB 1862 (by decide +kernel) (by decide +kernel)), RX10, TX10, 27, (inB 1863 (by decide +kernel) (by decide +kernel)), rfl⟩
theorem cb_X10_refusal (own : String) : CB own mX10_refusal 0 := ⟨inB 1868 (by decide +kernel) (by decide +kernel), (inB 82 (by decide +kernel) (by decide +kernel)), by decide, by decide +kernel, by decide +kernel, by decide +kernel⟩
theorem v_L_177 : CV RL 177 14 mX10_refusal 0 := ⟨⟨cb_X10_refusal _, rfl⟩, (inB 1865 (by decide +kernel) (by decide +kernel)), (inB 1866 (by decide +kernel) (by decide +kernel)), RX10, TX10, 27, (inB 1867 (by decide +kernel) (by decide +kernel)), rfl⟩
theorem cb_X10_block (own : String) : CB own mX10_block 2 := ⟨inB 1872 (by decide +kernel) (by decide +kernel), (inB 82 (by decide +kernel) (by decide +kernel)), by decide, by decide +kernel, by decide +kernel, by decide +kernel⟩
theorem v_L_180 : CV RL 180 14 mX10_block 2 := ⟨⟨cb_X10_block _, rfl⟩, (inB 1869 (by decide +kernel) (by decide +kernel)), (inB 1870 (by decide +kernel) (by decide +kernel)), RX10, TX10, 27, (inB 1871 (by decide +kernel) (by decide +kernel)), rfl⟩
theorem cb_X10_part (own : String) : CB own mX10_part 2 := ⟨inB 1876 (by decide +kernel) (by decide +kernel), (inB 82 (by decide +kernel) (by decide +kernel)), by decide, by decide +kernel, by decide +kernel, by decide +kernel⟩
theorem v_L_183 : CV RL 183 14 mX10_part 2 := ⟨⟨cb_X10_part _, rfl⟩, (inB 1873 (by decide +kernel) (by decide +kernel)), (inB 1874 (by decide +kernel) (by decide +kernel)), RX10, TX10, 27, (inB 1875 (by decide +kernel) (by decide +kernel)), rfl⟩
theorem cb_X10_letter (own : String) : CB own mX10_letter 2 := ⟨inB 1880 (by decide +kernel) (by decide +kernel), (inB 82 (by decide +kernel) (by decide +kernel)), by decide, by decide +kernel, by decide +kernel, by decide +kernel⟩
theorem v_L_186 : CV RL 186 14 mX10_letter 2 := ⟨⟨cb_X10_letter _, rfl⟩, (inB 1877 (by decide +kernel) (by decide +kernel)), (inB 1878 (by decide +kernel) (by decide +kernel)), RX10, TX10, 27, (inB 1879 (by decide +kernel) (by decide +kernel)), rfl⟩
theorem cb_X10_accepts (own : String) : CB own mX10_accepts 2 := ⟨inB 1884 (by decide +kernel) (by decide +kernel), (inB 82 (by decide +kernel) (by decide +kernel)), by decide, by decide +kernel, by decide +kernel, by decide +kernel⟩
theorem v_L_189 : CV RL 189 14 mX10_accepts 2 := ⟨⟨cb_X10_accepts _, rfl⟩, (inB 1881 (by decide +kernel) (by decide +kernel)), (inB 1882 (by decide +kernel) (by decide +kernel)), RX10, TX10, 27, (inB 1883 (by decide +kernel) (by decide +kernel)), rfl⟩
theorem cb_X10_isMet (own : String) : CB own mX10_isMet 1 := ⟨inB 1888 (by decide +kernel) (by decide +kernel), (inB 82 (by decide +kernel) (by decide +kernel)), by decide, by decide +kernel, by decide +kernel, by decide +kernel⟩
theorem v_L_192 : CV RL 192 14 mX10_isMet 1 := ⟨⟨cb_X10_isMet _, rfl⟩, (inB 1885 (by decide +kernel) (by decide +kernel)), (inB 1886 (by decide +kernel) (by decide +kernel)), RX10, TX10, 27, (inB 1887 (by decide +kernel) (by decide +kernel)), rfl⟩
theorem cb_X10_points (own : String) : CB own mX10_points 1 := ⟨inB 1892 (by decide +kernel) (by decide +kernel), (inB 82 (by decide +kernel) (by decide +kernel)), by decide, by decide +kernel, by decide +kernel, by decide +kernel⟩
theorem v_L_195 : CV RL 195 14 mX10_points 1 := ⟨⟨cb_X10_points _, rfl⟩, (inB 1889 (by decide +kernel) (by decide +kernel)), (inB 1890 (by decide +kernel) (by decide +kernel)), RX10, TX10, 27, (inB 1891 (by decide +kernel) (by decide +kernel)), rfl⟩
theorem cb_X10_lacks (own : String) : CB own mX10_lacks 1 := ⟨inB 1900 (by decide +kernel) (by decide +kernel), (inB 82 (by decide +kernel) (by decide +kernel)), by decide, by decide +kernel, by decide +kernel, by decide +kernel⟩
theorem v_L_198 : CV RL 198 14 mX10_lacks 1 := ⟨⟨cb_X10_lacks _, rfl⟩, (inB 1897 (by decide +kernel) (by decide +kernel)), (inB 1898 (by decide +kernel) (by decide +kernel)), RX10, TX10, 27, (inB 1899 (by decide +kernel) (by decide +kernel)), rfl⟩
theorem cb_X9_isComplete (own : String) : CB own mX9_isComplete 0 := ⟨inB 380 (by decide +kernel) (by decide +kernel), (inB 68 (by decide +kernel) (by decide +kernel)), by decide, by decide +kernel, by decide +kernel, by decide +kernel⟩
theorem v_L_199 : CV RL 199 13 mX9_isComplete 0 := ⟨⟨cb_X9_isComplete _, rfl⟩, (inB 377 (by decide +kernel) (by decide +kernel)), (inB 378 (by decide +kernel) (by decide +kernel)), RX9, TX9, 9, (inB 379 (by decide +kernel) (by decide +kernel)), rfl⟩
theorem cb_X10_isComplete (own : String) : CB own mX10_isComplete 0 := ⟨inB 1904 (by decide +kernel) (by decide +kernel), (inB 82 (by decide +kernel) (by decide +kernel)), by decide, by decide +kernel, by decide +kernel, by decide +kernel⟩
theorem v_L_203 : CV RL 203 14 mX10_isComplete 0 := ⟨⟨cb_X10_isComplete _, rfl⟩, (inB 1901 (by decide +kernel) (by decide +kernel)), (inB 1902 (by decide +kernel) (by decide +kernel)), RX10, TX10, 27, (inB 1903 (by decide +kernel) (by decide +kernel)), rfl⟩
theorem cb_X10_rootsWith (own : String) : CB own mX10_rootsWith 4 := ⟨inB 1912 (by decide +kernel) (by decide +kernel), (inB 82 (by decide +kernel) (by decide +kernel)), by decide, by decide +kernel, by decide +kernel, by decide +kernel⟩
theorem v_L_206 : CV RL 206 14 mX10_rootsWith 4 := ⟨⟨cb_X10_rootsWith _, rfl⟩, (inB 1909 (by decide +kernel) (by decide +kernel)), (inB 1910 (by decide +kernel) (by decide +kernel)), RX10, TX10, 27, (inB 1911 (by decide +kernel) (by decide +kernel)), rfl⟩
theorem cb_X10_lapses (own : String) : CB own mX10_lapses 0 := ⟨inB 1916 (by decide +kernel) (by decide +kernel), (inB 82 (by decide +kernel) (by decide +kernel)), by decide, by decide +kernel, by decide +kernel, by decide +kernel⟩
theorem v_L_209 : CV RL 209 14 mX10_lapses 0 := ⟨⟨cb_X10_lapses _, rfl⟩, (inB 1913 (by decide +kernel) (by decide +kernel)), (inB 1914 (by decide +kernel) (by decide +kernel)), RX10, TX10, 27, (inB 1915 (by decide +kernel) (by decide +kernel)), rfl⟩
theorem cb_X10_layers (own : String) : CB own mX10_layers 1 := ⟨inB 1920 (by decide +kernel) (by decide +kernel), (inB 82 (by decide +kernel) (by decide +kernel)), by decide, by decide +kernel, by decide +kernel, by decide +kernel⟩
theorem v_L_212 : CV RL 212 14 mX10_layers 1 := ⟨⟨cb_X10_layers _, rfl⟩, (inB 1917 (by decide +kernel) (by decide +kernel)), (inB 1918 (by decide +kernel) (by decide +kernel)), RX10, TX10, 27, (inB 1919 (by decide +kernel) (by decide +kernel)), rfl⟩
theorem cb_X10_why (own : String) : CB own mX10_why 3 := ⟨inB 1936 (by decide +kernel) (by decide +kernel), (inB 82 (by decide +kernel) (by decide +kernel)), by decide, by decide +kernel, by decide +kernel, by decide +kernel⟩
theorem v_L_216 : CV RL 216 14 mX10_why 3 := ⟨⟨cb_X10_why _, rfl⟩, (inB 1933 (by decide +kernel) (by decide +kernel)), (inB 1934 (by decide +kernel) (by decide +kernel)), RX10, TX10, 27, (inB 1935 (by decide +kernel) (by decide +kernel)), rfl⟩
theorem cb_X10_pass (own : String) : CB own mX10_pass 1 := ⟨inB 1940 (by decide +kernel) (by decide +kernel), (inB 82 (by decide +kernel) (by decide +kernel)), by decide, by decide +kernel, by decide +kernel, by decide +kernel⟩
theorem v_L_219 : CV RL 219 14 mX10_pass 1 := ⟨⟨cb_X10_pass _, rfl⟩, (inB 1937 (by decide +kernel) (by decide +kernel)), (inB 1938 (by decide +kernel) (by decide +kernel)), RX10, TX10, 27, (inB 1939 (by decide +kernel) (by decide +kernel)), rfl⟩
theorem cb_X9_year (own : String) : CB own mX9_year 0 := ⟨inB 513 (by decide +kernel) (by decide +kernel), (inB 68 (by decide +kernel) (by decide +kernel)), by decide, by decide +kernel, by decide +kernel, by decide +kernel⟩
theorem v_L_220 : CV RL 220 13 mX9_year 0 := ⟨⟨cb_X9_year _, rfl⟩, (inB 510 (by decide +kernel) (by decide +kernel)), (inB 511 (by decide +kernel) (by decide +kernel)), RX9, TX9, 9, (inB 512 (by decide +kernel) (by decide +kernel)), rfl⟩
theorem cb_X10_year (own : String) : CB own mX10_year 0 := ⟨inB 1944 (by decide +kernel) (by decide +kernel), (inB 82 (by decide +kernel) (by decide +kernel)), by decide, by decide +kernel, by decide +kernel, by decide +kernel⟩
theorem v_L_223 : CV RL 223 14 mX10_year 0 := ⟨⟨cb_X10_year _, rfl⟩, (inB 1941 (by decide +kernel) (by decide +kernel)), (inB 1942 (by decide +kernel) (by decide +kernel)), RX10, TX10, 27, (inB 1943 (by decide +kernel) (by decide +kernel)), rfl⟩
theorem cb_X10_account (own : String) : CB own mX10_account 1 := ⟨inB 1948 (by decide +kernel) (by decide +kernel), (inB 82 (by decide +kernel) (by decide +kernel)), by decide, by decide +kernel, by decide +kernel, by decide +kernel⟩
theorem v_L_226 : CV RL 226 14 mX10_account 1 := ⟨⟨cb_X10_account _, rfl⟩, (inB 1945 (by decide +kernel) (by decide +kernel)), (inB 1946 (by decide +kernel) (by decide +kernel)), RX10, TX10, 27, (inB 1947 (by decide +kernel) (by decide +kernel)), rfl⟩
theorem cb_X10_meanGrade (own : String) : CB own mX10_meanGrade 0 := ⟨inB 1964 (by decide +kernel) (by decide +kernel), (inB 82 (by decide +kernel) (by decide +kernel)), by decide, by decide +kernel, by decide +kernel, by decide +kernel⟩
theorem v_L_230 : CV RL 230 14 mX10_meanGrade 0 := ⟨⟨cb_X10_meanGrade _, rfl⟩, (inB 1961 (by decide +kernel) (by decide +kernel)), (inB 1962 (by decide +kernel) (by decide +kernel)), RX10, TX10, 27, (inB 1963 (by decide +kernel) (by decide +kernel)), rfl⟩
theorem cb_X10_undo (own : String) : CB own mX10_undo 0 := ⟨inB 1648 (by decide +kernel) (by decide +kernel), (inB 82 (by decide +kernel) (by decide +kernel)), by decide, by decide +kernel, by decide +kernel, by decide +kernel⟩
theorem v_L_233 : CV RL 233 14 mX10_undo 0 := ⟨⟨cb_X10_undo _, rfl⟩, (inB 1645 (by decide +kernel) (by decide +kernel)), (inB 1646 (by decide +kernel) (by decide +kernel)), RX10, TX10, 27, (inB 1647 (by decide +kernel) (by decide +kernel)), rfl⟩
theorem cb_X9_save (own : String) : CB own mX9_save 0 := ⟨inB 517 (by decide +kernel) (by decide +kernel), (inB 68 (by decide +kernel) (by decide +kernel)), by decide, by decide +kernel, by decide +kernel, by decide +kernel⟩
theorem v_L_234 : CV RL 234 13 mX9_save 0 := ⟨⟨cb_X9_save _, rfl⟩, (inB 514 (by decide +kernel) (by decide +kernel)), (inB 515 (by decide +kernel) (by decide +kernel)), RX9, TX9, 9, (inB 516 (by decide +kernel) (by decide +kernel)), rfl⟩
theorem cb_X10_save (own : String) : CB own mX10_save 0 := ⟨inB 1655 (by decide +kernel) (by decide +kernel), (inB 82 (by decide +kernel) (by decide +kernel)), by decide, by decide +kernel, by decide +kernel, by decide +kernel⟩
theorem v_L_237 : CV RL 237 14 mX10_save 0 := ⟨⟨cb_X10_save _, rfl⟩, (inB 1652 (by decide +kernel) (by decide +kernel)), (inB 1653 (by decide +kernel) (by decide +kernel)), RX10, TX10, 27, (inB 1654 (by decide +kernel) (by decide +kernel)), rfl⟩
theorem cb_X10_restore (own : String) : CB own mX10_restore 0 := ⟨inB 1659 (by decide +kernel) (by decide +kernel), (inB 82 (by decide +kernel) (by decide +kernel)), by decide, by decide +kernel, by decide +kernel, by decide +kernel⟩
theorem v_L_241 : CV RL 241 14 mX10_restore 0 := ⟨⟨cb_X10_restore _, rfl⟩, (inB 1656 (by decide +kernel) (by decide +kernel)), (inB 1657 (by decide +kernel) (by decide +kernel)), RX10, TX10, 27, (inB 1658 (by decide +kernel) (by decide +kernel)), rfl⟩
theorem n_L_8 : NW RL 8 13 9 [.null, .null, .null, .null, .null, .null, .null, .int (J 0), .int (J 0)] := ⟨RX9, TX9, tyX9, rfl, inw13, tyX9_ok, by decide +kernel, (inB 103 (by decide +kernel) (by decide +kernel)), (inB 104 (by decide +kernel) (by decide +kernel)), (inB 68 (by decide +kernel) (by decide +kernel))⟩
theorem n_L_121 : NW RL 121 14 27 [.null, .null, .null, .int (J 0), .null, .int (J 0), .int (J 0), .int (J 0), .int (J 0), .null, .null, .null, .null, .int (J 0), .int (J 0), .int (J 0), .null, .int (J 0), .int (J 0), .int (J 0), .int (J 0), .null, .int (J 0), .int (J 0), .null, .null, .int (J 0)] := ⟨RX10, TX10, tyX10, rfl, inw14, tyX10_ok, by decide +kernel, (inB 1552 (by decide +kernel) (by decide +kernel)), (inB 1553 (by decide +kernel) (by decide +kernel)), (inB 82 (by decide +kernel) (by decide +kernel))⟩
theorem f_X0_9 : FL RX0 9 4 1 := ⟨RX0, TX0, 10, "CreditTransfer$BestUse", rfl, by decide, inw4, (inB 296 (by decide +kernel) (by decide +kernel)), Or.inl rfl⟩
theorem f_X0_15 : FL RX0 15 4 2 := ⟨RX0, TX0, 10, "CreditTransfer$BestUse", rfl, by decide, inw4, (inB 297 (by decide +kernel) (by decide +kernel)), Or.inl rfl⟩
theorem f_X0_18 : FL RX0 18 4 3 := ⟨RX0, TX0, 10, "CreditTransfer$BestUse", rfl, by decide, inw4, (inB 298 (by decide +kernel) (by decide +kernel)), Or.inl rfl⟩
theorem f_X0_22 : FL RX0 22 4 4 := ⟨RX0, TX0, 10, "CreditTransfer$BestUse", rfl, by decide, inw4, (inB 299 (by decide +kernel) (by decide +kernel)), Or.inl rfl⟩
theorem f_X0_25 : FL RX0 25 4 5 := ⟨RX0, TX0, 10, "CreditTransfer$BestUse", rfl, by decide, inw4, (inB 300 (by decide +kernel) (by decide +kernel)), Or.inl rfl⟩
theorem f_X0_28 : FL RX0 28 4 6 := ⟨RX0, TX0, 10, "CreditTransfer$BestUse", rfl, by decide, inw4, (inB 301 (by decide +kernel) (by decide +kernel)), Or.inl rfl⟩
theorem f_X0_31 : FL RX0 31 4 7 := ⟨RX0, TX0, 10, "CreditTransfer$BestUse", rfl, by decide, inw4, (inB 302 (by decide +kernel) (by decide +kernel)), Or.inl rfl⟩
theorem f_X0_34 : FL RX0 34 4 8 := ⟨RX0, TX0, 10, "CreditTransfer$BestUse", rfl, by decide, inw4, (inB 303 (by decide +kernel) (by decide +kernel)), Or.inl rfl⟩
theorem f_X0_37 : FL RX0 37 4 9 := ⟨RX0, TX0, 10, "CreditTransfer$BestUse", rfl, by decide, inw4, (inB 304 (by decide +kernel) (by decide +kernel)), Or.inl rfl⟩
theorem f_X0_40 : FL RX0 40 4 0 := ⟨RX0, TX0, 10, "CreditTransfer$BestUse", rfl, by decide, inw4, (inB 295 (by decide +kernel) (by decide +kernel)), Or.inl rfl⟩
theorem f_X0_44 : FL RX0 44 7 1 := ⟨RX3, TX3, 4, "CreditTransfer$Desk", rfl, by decide, inw7, (inB 271 (by decide +kernel) (by decide +kernel)), Or.inl rfl⟩
theorem f_X0_56 : FL RX0 56 7 3 := ⟨RX3, TX3, 4, "CreditTransfer$Desk", rfl, by decide, inw7, (inB 278 (by decide +kernel) (by decide +kernel)), Or.inl rfl⟩
theorem f_X0_60 : FL RX0 60 10 1 := ⟨RX6, TX6, 5, "CreditTransfer$Program", rfl, by decide, inw10, (inB 246 (by decide +kernel) (by decide +kernel)), Or.inl rfl⟩
theorem f_X0_91 : FL RX0 91 6 1 := ⟨RX2, TX2, 4, "CreditTransfer$Credit", rfl, by decide, inw6, (inB 632 (by decide +kernel) (by decide +kernel)), Or.inl rfl⟩
theorem f_X0_104 : FL RX0 104 6 2 := ⟨RX2, TX2, 4, "CreditTransfer$Credit", rfl, by decide, inw6, (inB 639 (by decide +kernel) (by decide +kernel)), Or.inl rfl⟩
theorem f_X0_107 : FL RX0 107 10 0 := ⟨RX6, TX6, 5, "CreditTransfer$Program", rfl, by decide, inw10, (inB 244 (by decide +kernel) (by decide +kernel)), Or.inl rfl⟩
theorem f_X0_111 : FL RX0 111 7 0 := ⟨RX3, TX3, 4, "CreditTransfer$Desk", rfl, by decide, inw7, (inB 268 (by decide +kernel) (by decide +kernel)), Or.inl rfl⟩
theorem f_X0_123 : FL RX0 123 5 3 := ⟨RX1, TX1, 6, "CreditTransfer$Block", rfl, by decide, inw5, (inB 984 (by decide +kernel) (by decide +kernel)), Or.inl rfl⟩
theorem o_X0_3 : Cond.methodLink RX0 3 objectInit ∈ BIG := (inB 294 (by decide +kernel) (by decide +kernel))
theorem s_X0_50 : CS RX0 50 mJ9_min_7cf53 2 := ⟨⟨cb_J9_min_7cf53 _, rfl⟩, (inB 393 (by decide +kernel) (by decide +kernel)), (inB 223 (by decide +kernel) (by decide +kernel))⟩
theorem cb_X0_giveFrom (own : String) : CB own mX0_giveFrom 2 := ⟨inB 495 (by decide +kernel) (by decide +kernel), (inB 80 (by decide +kernel) (by decide +kernel)), by decide, by decide +kernel, by decide +kernel, by decide +kernel⟩
theorem s_X0_69 : CS RX0 69 mX0_giveFrom 2 := ⟨⟨cb_X0_giveFrom _, rfl⟩, (inB 493 (by decide +kernel) (by decide +kernel)), (inB 494 (by decide +kernel) (by decide +kernel))⟩
theorem cb_X9_isInSet (own : String) : CB own mX9_isInSet 2 := ⟨inB 230 (by decide +kernel) (by decide +kernel), (inB 68 (by decide +kernel) (by decide +kernel)), by decide, by decide +kernel, by decide +kernel, by decide +kernel⟩
theorem s_X0_77 : CSN RX0 77 mX9_isInSet 2 := ⟨⟨cb_X9_isInSet _, rfl⟩, by decide +kernel, (inB 229 (by decide +kernel) (by decide +kernel))⟩
theorem cb_J6_bitCount_0f7a4 (own : String) : CB own mJ6_bitCount_0f7a4 1 := ⟨inB 236 (by decide +kernel) (by decide +kernel), (inB 79 (by decide +kernel) (by decide +kernel)), by decide, by decide +kernel, by decide +kernel, by decide +kernel⟩
theorem s_X0_99 : CS RX0 99 mJ6_bitCount_0f7a4 1 := ⟨⟨cb_J6_bitCount_0f7a4 _, rfl⟩, (inB 504 (by decide +kernel) (by decide +kernel)), (inB 235 (by decide +kernel) (by decide +kernel))⟩
theorem cb_X0_leavesFor (own : String) : CB own mX0_leavesFor 1 := ⟨inB 397 (by decide +kernel) (by decide +kernel), (inB 80 (by decide +kernel) (by decide +kernel)), by decide, by decide +kernel, by decide +kernel, by decide +kernel⟩
theorem v_X0_65 : CV RX0 65 4 mX0_leavesFor 1 := ⟨⟨cb_X0_leavesFor _, rfl⟩, (inB 394 (by decide +kernel) (by decide +kernel)), (inB 396 (by decide +kernel) (by decide +kernel)), RX0, TX0, 10, (inB 1 (by decide +kernel) (by decide +kernel)), rfl⟩
theorem cb_X0_metSet (own : String) : CB own mX0_metSet 0 := ⟨inB 1377 (by decide +kernel) (by decide +kernel), (inB 80 (by decide +kernel) (by decide +kernel)), by decide, by decide +kernel, by decide +kernel, by decide +kernel⟩
theorem v_X0_73 : CV RX0 73 4 mX0_metSet 0 := ⟨⟨cb_X0_metSet _, rfl⟩, (inB 1374 (by decide +kernel) (by decide +kernel)), (inB 1375 (by decide +kernel) (by decide +kernel)), RX0, TX0, 10, (inB 1376 (by decide +kernel) (by decide +kernel)), rfl⟩
theorem cb_X6_metSetFor (own : String) : CB own mX6_metSetFor 1 := ⟨inB 1381 (by decide +kernel) (by decide +kernel), (inB 76 (by decide +kernel) (by decide +kernel)), by decide, by decide +kernel, by decide +kernel, by decide +kernel⟩
theorem v_X0_81 : CV RX0 81 10 mX6_metSetFor 1 := ⟨⟨cb_X6_metSetFor _, rfl⟩, (inB 1378 (by decide +kernel) (by decide +kernel)), (inB 1379 (by decide +kernel) (by decide +kernel)), RX6, TX6, 5, (inB 1380 (by decide +kernel) (by decide +kernel)), rfl⟩
theorem cb_X0_takerOf (own : String) : CB own mX0_takerOf 1 := ⟨inB 740 (by decide +kernel) (by decide +kernel), (inB 80 (by decide +kernel) (by decide +kernel)), by decide, by decide +kernel, by decide +kernel, by decide +kernel⟩
theorem v_X0_85 : CV RX0 85 4 mX0_takerOf 1 := ⟨⟨cb_X0_takerOf _, rfl⟩, (inB 1393 (by decide +kernel) (by decide +kernel)), (inB 738 (by decide +kernel) (by decide +kernel)), RX0, TX0, 10, (inB 739 (by decide +kernel) (by decide +kernel)), rfl⟩
theorem cb_X6_isWithin (own : String) : CB own mX6_isWithin 2 := ⟨inB 1397 (by decide +kernel) (by decide +kernel), (inB 76 (by decide +kernel) (by decide +kernel)), by decide, by decide +kernel, by decide +kernel, by decide +kernel⟩
theorem v_X0_88 : CV RX0 88 10 mX6_isWithin 2 := ⟨⟨cb_X6_isWithin _, rfl⟩, (inB 1394 (by decide +kernel) (by decide +kernel)), (inB 1395 (by decide +kernel) (by decide +kernel)), RX6, TX6, 5, (inB 1396 (by decide +kernel) (by decide +kernel)), rfl⟩
theorem cb_X6_metRootsFor (own : String) : CB own mX6_metRootsFor 1 := ⟨inB 503 (by decide +kernel) (by decide +kernel), (inB 76 (by decide +kernel) (by decide +kernel)), by decide, by decide +kernel, by decide +kernel, by decide +kernel⟩
theorem v_X0_96 : CV RX0 96 10 mX6_metRootsFor 1 := ⟨⟨cb_X6_metRootsFor _, rfl⟩, (inB 500 (by decide +kernel) (by decide +kernel)), (inB 501 (by decide +kernel) (by decide +kernel)), RX6, TX6, 5, (inB 502 (by decide +kernel) (by decide +kernel)), rfl⟩
theorem cb_X1_takes (own : String) : CB own mX1_takes 2 := ⟨inB 401 (by decide +kernel) (by decide +kernel), (inB 97 (by decide +kernel) (by decide +kernel)), by decide, by decide +kernel, by decide +kernel, by decide +kernel⟩
theorem v_X0_114 : CV RX0 114 5 mX1_takes 2 := ⟨⟨cb_X1_takes _, rfl⟩, (inB 398 (by decide +kernel) (by decide +kernel)), (inB 399 (by decide +kernel) (by decide +kernel)), RX1, TX1, 6, (inB 400 (by decide +kernel) (by decide +kernel)), rfl⟩
theorem cb_X0_weigh (own : String) : CB own mX0_weigh 0 := ⟨inB 499 (by decide +kernel) (by decide +kernel), (inB 80 (by decide +kernel) (by decide +kernel)), by decide, by decide +kernel, by decide +kernel, by decide +kernel⟩
theorem v_X0_120 : CV RX0 120 4 mX0_weigh 0 := ⟨⟨cb_X0_weigh _, rfl⟩, (inB 496 (by decide +kernel) (by decide +kernel)), (inB 498 (by decide +kernel) (by decide +kernel)), RX0, TX0, 10, (inB 2 (by decide +kernel) (by decide +kernel)), rfl⟩
theorem p_X0_9 : FP RX0 4 1 (.int) := ⟨RX0, TX0, 10, tyX0, rfl, tyX0_ok, nmX0, tyX0_ok 1 (by decide), fun h => absurd h (by decide)⟩
theorem ff_4_1 (nm : String) : FF 4 1 nm := fun _ _ _ h1 h2 => by
  cases h1
  exact absurd h2 (by decide)
theorem p_X0_15 : FP RX0 4 2 (.int) := ⟨RX0, TX0, 10, tyX0, rfl, tyX0_ok, nmX0, tyX0_ok 2 (by decide), fun h => absurd h (by decide)⟩
theorem ff_4_2 (nm : String) : FF 4 2 nm := fun _ _ _ h1 h2 => by
  cases h1
  exact absurd h2 (by decide)
theorem p_X0_18 : FP RX0 4 3 (.array .int) := ⟨RX0, TX0, 10, tyX0, rfl, tyX0_ok, nmX0, tyX0_ok 3 (by decide), fun _ => rfl⟩
theorem ff_4_3 : FF 4 3 "<init>" := fun _ _ _ _ _ => rfl
theorem p_X0_22 : FP RX0 4 4 (.array .int) := ⟨RX0, TX0, 10, tyX0, rfl, tyX0_ok, nmX0, tyX0_ok 4 (by decide), fun _ => rfl⟩
theorem ff_4_4 : FF 4 4 "<init>" := fun _ _ _ _ _ => rfl
theorem p_X0_25 : FP RX0 4 5 (.array .int) := ⟨RX0, TX0, 10, tyX0, rfl, tyX0_ok, nmX0, tyX0_ok 5 (by decide), fun _ => rfl⟩
theorem ff_4_5 : FF 4 5 "<init>" := fun _ _ _ _ _ => rfl
theorem p_X0_28 : FP RX0 4 6 (.array .int) := ⟨RX0, TX0, 10, tyX0, rfl, tyX0_ok, nmX0, tyX0_ok 6 (by decide), fun _ => rfl⟩
theorem ff_4_6 : FF 4 6 "<init>" := fun _ _ _ _ _ => rfl
theorem p_X0_31 : FP RX0 4 7 (.int) := ⟨RX0, TX0, 10, tyX0, rfl, tyX0_ok, nmX0, tyX0_ok 7 (by decide), fun h => absurd h (by decide)⟩
theorem ff_4_7 (nm : String) : FF 4 7 nm := fun _ _ _ h1 h2 => by
  cases h1
  exact absurd h2 (by decide)
theorem p_X0_34 : FP RX0 4 8 (.int) := ⟨RX0, TX0, 10, tyX0, rfl, tyX0_ok, nmX0, tyX0_ok 8 (by decide), fun h => absurd h (by decide)⟩
theorem ff_4_8 (nm : String) : FF 4 8 nm := fun _ _ _ h1 h2 => by
  cases h1
  exact absurd h2 (by decide)
theorem p_X0_37 : FP RX0 4 9 (.int) := ⟨RX0, TX0, 10, tyX0, rfl, tyX0_ok, nmX0, tyX0_ok 9 (by decide), fun h => absurd h (by decide)⟩
theorem ff_4_9 (nm : String) : FF 4 9 nm := fun _ _ _ h1 h2 => by
  cases h1
  exact absurd h2 (by decide)
theorem p_X0_40 : FP RX0 4 0 (.object "CreditTransfer$Desk") := ⟨RX0, TX0, 10, tyX0, rfl, tyX0_ok, nmX0, tyX0_ok 0 (by decide), fun h => absurd h (by decide)⟩
theorem ff_4_0 (nm : String) : FF 4 0 nm := fun _ _ _ h1 h2 => by
  cases h1
  exact absurd h2 (by decide)
theorem f_X1_9 : FL RX1 9 5 0 := ⟨RX1, TX1, 6, "CreditTransfer$Block", rfl, by decide, inw5, (inB 973 (by decide +kernel) (by decide +kernel)), Or.inl rfl⟩
theorem f_X1_22 : FL RX1 22 5 3 := ⟨RX1, TX1, 6, "CreditTransfer$Block", rfl, by decide, inw5, (inB 981 (by decide +kernel) (by decide +kernel)), Or.inl rfl⟩
theorem f_X1_25 : FL RX1 25 5 4 := ⟨RX1, TX1, 6, "CreditTransfer$Block", rfl, by decide, inw5, (inB 986 (by decide +kernel) (by decide +kernel)), Or.inl rfl⟩
theorem f_X1_28 : FL RX1 28 5 5 := ⟨RX1, TX1, 6, "CreditTransfer$Block", rfl, by decide, inw5, (inB 988 (by decide +kernel) (by decide +kernel)), Or.inl rfl⟩
theorem f_X1_37 : FL RX1 37 6 0 := ⟨RX2, TX2, 4, "CreditTransfer$Credit", rfl, by decide, inw6, (inB 627 (by decide +kernel) (by decide +kernel)), Or.inl rfl⟩
theorem f_X1_47 : FL RX1 47 6 3 := ⟨RX2, TX2, 4, "CreditTransfer$Credit", rfl, by decide, inw6, (inB 641 (by decide +kernel) (by decide +kernel)), Or.inl rfl⟩
theorem f_X1_54 : FL RX1 54 6 2 := ⟨RX2, TX2, 4, "CreditTransfer$Credit", rfl, by decide, inw6, (inB 637 (by decide +kernel) (by decide +kernel)), Or.inl rfl⟩
theorem o_X1_3 : Cond.methodLink RX1 3 objectInit ∈ BIG := (inB 972 (by decide +kernel) (by decide +kernel))
theorem cb_J0_isEmpty_aae02 (own : String) : CB own mJ0_isEmpty_aae02 0 := ⟨inB 218 (by decide +kernel) (by decide +kernel), (inB 72 (by decide +kernel) (by decide +kernel)), by decide, by decide +kernel, by decide +kernel, by decide +kernel⟩
theorem v_X1_31 : CV RX1 31 0 mJ0_isEmpty_aae02 0 := ⟨⟨cb_J0_isEmpty_aae02 _, rfl⟩, (inB 215 (by decide +kernel) (by decide +kernel)), (inB 216 (by decide +kernel) (by decide +kernel)), RJ0, TJ0, 4, (inB 217 (by decide +kernel) (by decide +kernel)), rfl⟩
theorem cb_J0_indexOf_0f7a4 (own : String) : CB own mJ0_indexOf_0f7a4 1 := ⟨inB 409 (by decide +kernel) (by decide +kernel), (inB 72 (by decide +kernel) (by decide +kernel)), by decide, by decide +kernel, by decide +kernel, by decide +kernel⟩
theorem v_X1_43 : CV RX1 43 0 mJ0_indexOf_0f7a4 1 := ⟨⟨cb_J0_indexOf_0f7a4 _, rfl⟩, (inB 406 (by decide +kernel) (by decide +kernel)), (inB 407 (by decide +kernel) (by decide +kernel)), RJ0, TJ0, 4, (inB 408 (by decide +kernel) (by decide +kernel)), rfl⟩
theorem cb_X1_names (own : String) : CB own mX1_names 1 := ⟨inB 405 (by decide +kernel) (by decide +kernel), (inB 97 (by decide +kernel) (by decide +kernel)), by decide, by decide +kernel, by decide +kernel, by decide +kernel⟩
theorem v_X1_50 : CV RX1 50 5 mX1_names 1 := ⟨⟨cb_X1_names _, rfl⟩, (inB 402 (by decide +kernel) (by decide +kernel)), (inB 403 (by decide +kernel) (by decide +kernel)), RX1, TX1, 6, (inB 404 (by decide +kernel) (by decide +kernel)), rfl⟩
theorem cb_X1_lastYearFor (own : String) : CB own mX1_lastYearFor 1 := ⟨inB 492 (by decide +kernel) (by decide +kernel), (inB 97 (by decide +kernel) (by decide +kernel)), by decide, by decide +kernel, by decide +kernel, by decide +kernel⟩
theorem v_X1_57 : CV RX1 57 5 mX1_lastYearFor 1 := ⟨⟨cb_X1_lastYearFor _, rfl⟩, (inB 489 (by decide +kernel) (by decide +kernel)), (inB 490 (by decide +kernel) (by decide +kernel)), RX1, TX1, 6, (inB 491 (by decide +kernel) (by decide +kernel)), rfl⟩
theorem cb_X1_isGroup (own : String) : CB own mX1_isGroup 0 := ⟨inB 214 (by decide +kernel) (by decide +kernel), (inB 97 (by decide +kernel) (by decide +kernel)), by decide, by decide +kernel, by decide +kernel, by decide +kernel⟩
theorem v_X1_61 : CV RX1 61 5 mX1_isGroup 0 := ⟨⟨cb_X1_isGroup _, rfl⟩, (inB 1299 (by decide +kernel) (by decide +kernel)), (inB 212 (by decide +kernel) (by decide +kernel)), RX1, TX1, 6, (inB 213 (by decide +kernel) (by decide +kernel)), rfl⟩
theorem p_X1_9 : FP RX1 5 0 (.object "java/lang/String") := ⟨RX1, TX1, 6, tyX1, rfl, tyX1_ok, nmX1, tyX1_ok 0 (by decide), fun _ => rfl⟩
theorem ff_5_0 : FF 5 0 "<init>" := fun _ _ _ _ _ => rfl
theorem f_X1_15 : FL RX1 15 5 1 := ⟨RX1, TX1, 6, "CreditTransfer$Block", rfl, by decide, inw5, (inB 975 (by decide +kernel) (by decide +kernel)), Or.inl rfl⟩
theorem p_X1_15 : FP RX1 5 1 (.int) := ⟨RX1, TX1, 6, tyX1, rfl, tyX1_ok, nmX1, tyX1_ok 1 (by decide), fun _ => rfl⟩
theorem ff_5_1 : FF 5 1 "<init>" := fun _ _ _ _ _ => rfl
theorem f_X1_19 : FL RX1 19 5 2 := ⟨RX1, TX1, 6, "CreditTransfer$Block", rfl, by decide, inw5, (inB 979 (by decide +kernel) (by decide +kernel)), Or.inl rfl⟩
theorem p_X1_19 : FP RX1 5 2 (.int) := ⟨RX1, TX1, 6, tyX1, rfl, tyX1_ok, nmX1, tyX1_ok 2 (by decide), fun _ => rfl⟩
theorem ff_5_2 : FF 5 2 "<init>" := fun _ _ _ _ _ => rfl
theorem p_X1_22 : FP RX1 5 3 (.int) := ⟨RX1, TX1, 6, tyX1, rfl, tyX1_ok, nmX1, tyX1_ok 3 (by decide), fun _ => rfl⟩
theorem ff_5_3 : FF 5 3 "<init>" := fun _ _ _ _ _ => rfl
theorem p_X1_25 : FP RX1 5 4 (.int) := ⟨RX1, TX1, 6, tyX1, rfl, tyX1_ok, nmX1, tyX1_ok 4 (by decide), fun _ => rfl⟩
theorem ff_5_4 : FF 5 4 "<init>" := fun _ _ _ _ _ => rfl
theorem p_X1_28 : FP RX1 5 5 (.int) := ⟨RX1, TX1, 6, tyX1, rfl, tyX1_ok, nmX1, tyX1_ok 5 (by decide), fun _ => rfl⟩
theorem ff_5_5 : FF 5 5 "<init>" := fun _ _ _ _ _ => rfl
theorem f_X10_7 : FL RX10 7 14 0 := ⟨RX10, TX10, 27, "CreditTransferModel", rfl, by decide, inw14, (inB 1558 (by decide +kernel) (by decide +kernel)), Or.inl rfl⟩
theorem f_X10_13 : FL RX10 13 14 1 := ⟨RX10, TX10, 27, "CreditTransferModel", rfl, by decide, inw14, (inB 1559 (by decide +kernel) (by decide +kernel)), Or.inl rfl⟩
theorem f_X10_16 : FL RX10 16 14 2 := ⟨RX10, TX10, 27, "CreditTransferModel", rfl, by decide, inw14, (inB 1560 (by decide +kernel) (by decide +kernel)), Or.inl rfl⟩
theorem f_X10_19 : FL RX10 19 14 4 := ⟨RX10, TX10, 27, "CreditTransferModel", rfl, by decide, inw14, (inB 1562 (by decide +kernel) (by decide +kernel)), Or.inl rfl⟩
theorem f_X10_22 : FL RX10 22 14 9 := ⟨RX10, TX10, 27, "CreditTransferModel", rfl, by decide, inw14, (inB 1567 (by decide +kernel) (by decide +kernel)), Or.inl rfl⟩
theorem f_X10_25 : FL RX10 25 14 10 := ⟨RX10, TX10, 27, "CreditTransferModel", rfl, by decide, inw14, (inB 1568 (by decide +kernel) (by decide +kernel)), Or.inl rfl⟩
theorem f_X10_28 : FL RX10 28 14 11 := ⟨RX10, TX10, 27, "CreditTransferModel", rfl, by decide, inw14, (inB 1569 (by decide +kernel) (by decide +kernel)), Or.inl rfl⟩
theorem f_X10_31 : FL RX10 31 14 12 := ⟨RX10, TX10, 27, "CreditTransferModel", rfl, by decide, inw14, (inB 1570 (by decide +kernel) (by decide +kernel)), Or.inl rfl⟩
theorem f_X10_35 : FL RX10 35 14 16 := ⟨RX10, TX10, 27, "CreditTransferModel", rfl, by decide, inw14, (inB 1574 (by decide +kernel) (by decide +kernel)), Or.inl rfl⟩
theorem f_X10_38 : FL RX10 38 14 20 := ⟨RX10, TX10, 27, "CreditTransferModel", rfl, by decide, inw14, (inB 1578 (by decide +kernel) (by decide +kernel)), Or.inl rfl⟩
theorem f_X10_42 : FL RX10 42 14 21 := ⟨RX10, TX10, 27, "CreditTransferModel", rfl, by decide, inw14, (inB 1579 (by decide +kernel) (by decide +kernel)), Or.inl rfl⟩
theorem f_X10_45 : FL RX10 45 14 24 := ⟨RX10, TX10, 27, "CreditTransferModel", rfl, by decide, inw14, (inB 1582 (by decide +kernel) (by decide +kernel)), Or.inl rfl⟩
theorem f_X10_48 : FL RX10 48 14 25 := ⟨RX10, TX10, 27, "CreditTransferModel", rfl, by decide, inw14, (inB 1583 (by decide +kernel) (by decide +kernel)), Or.inl rfl⟩
theorem f_X10_51 : FL RX10 51 14 7 := ⟨RX10, TX10, 27, "CreditTransferModel", rfl, by decide, inw14, (inB 1565 (by decide +kernel) (by decide +kernel)), Or.inl rfl⟩
theorem f_X10_54 : FL RX10 54 14 6 := ⟨RX10, TX10, 27, "CreditTransferModel", rfl, by decide, inw14, (inB 1564 (by decide +kernel) (by decide +kernel)), Or.inl rfl⟩
theorem f_X10_69 : FL RX10 69 14 8 := ⟨RX10, TX10, 27, "CreditTransferModel", rfl, by decide, inw14, (inB 1566 (by decide +kernel) (by decide +kernel)), Or.inl rfl⟩
theorem f_X10_73 : FL RX10 73 14 5 := ⟨RX10, TX10, 27, "CreditTransferModel", rfl, by decide, inw14, (inB 1563 (by decide +kernel) (by decide +kernel)), Or.inl rfl⟩
theorem f_X10_80 : FL RX10 80 14 3 := ⟨RX10, TX10, 27, "CreditTransferModel", rfl, by decide, inw14, (inB 1561 (by decide +kernel) (by decide +kernel)), Or.inl rfl⟩
theorem f_X10_97 : FL RX10 97 14 15 := ⟨RX10, TX10, 27, "CreditTransferModel", rfl, by decide, inw14, (inB 1573 (by decide +kernel) (by decide +kernel)), Or.inl rfl⟩
theorem f_X10_100 : FL RX10 100 14 13 := ⟨RX10, TX10, 27, "CreditTransferModel", rfl, by decide, inw14, (inB 1571 (by decide +kernel) (by decide +kernel)), Or.inl rfl⟩
theorem f_X10_103 : FL RX10 103 14 14 := ⟨RX10, TX10, 27, "CreditTransferModel", rfl, by decide, inw14, (inB 1572 (by decide +kernel) (by decide +kernel)), Or.inl rfl⟩
theorem f_X10_178 : FL RX10 178 14 17 := ⟨RX10, TX10, 27, "CreditTransferModel", rfl, by decide, inw14, (inB 1575 (by decide +kernel) (by decide +kernel)), Or.inl rfl⟩
theorem f_X10_181 : FL RX10 181 14 18 := ⟨RX10, TX10, 27, "CreditTransferModel", rfl, by decide, inw14, (inB 1576 (by decide +kernel) (by decide +kernel)), Or.inl rfl⟩
theorem f_X10_187 : FL RX10 187 14 19 := ⟨RX10, TX10, 27, "CreditTransferModel", rfl, by decide, inw14, (inB 1577 (by decide +kernel) (by decide +kernel)), Or.inl rfl⟩
theorem f_X10_190 : FL RX10 190 14 22 := ⟨RX10, TX10, 27, "CreditTransferModel", rfl, by decide, inw14, (inB 1580 (by decide +kernel) (by decide +kernel)), Or.inl rfl⟩
theorem f_X10_193 : FL RX10 193 14 23 := ⟨RX10, TX10, 27, "CreditTransferModel", rfl, by decide, inw14, (inB 1581 (by decide +kernel) (by decide +kernel)), Or.inl rfl⟩
theorem f_X10_233 : FL RX10 233 14 26 := ⟨RX10, TX10, 27, "CreditTransferModel", rfl, by decide, inw14, (inB 1584 (by decide +kernel) (by decide +kernel)), Or.inl rfl⟩
theorem o_X10_1 : Cond.methodLink RX10 1 objectInit ∈ BIG := (inB 1557 (by decide +kernel) (by decide +kernel))
theorem cb_X10_in (own : String) : CB own mX10_in 3 := ⟨inB 1673 (by decide +kernel) (by decide +kernel), (inB 82 (by decide +kernel) (by decide +kernel)), by decide, by decide +kernel, by decide +kernel, by decide +kernel⟩
theorem s_X10_61 : CS RX10 61 mX10_in 3 := ⟨⟨cb_X10_in _, rfl⟩, (inB 1671 (by decide +kernel) (by decide +kernel)), (inB 1672 (by decide +kernel) (by decide +kernel))⟩
theorem cb_X10_blockAt (own : String) : CB own mX10_blockAt 2 := ⟨inB 1730 (by decide +kernel) (by decide +kernel), (inB 82 (by decide +kernel) (by decide +kernel)), by decide, by decide +kernel, by decide +kernel, by decide +kernel⟩
theorem s_X10_65 : CS RX10 65 mX10_blockAt 2 := ⟨⟨cb_X10_blockAt _, rfl⟩, (inB 1728 (by decide +kernel) (by decide +kernel)), (inB 1729 (by decide +kernel) (by decide +kernel))⟩
theorem cb_X10_copies (own : String) : CB own mX10_copies 4 := ⟨inB 1651 (by decide +kernel) (by decide +kernel), (inB 82 (by decide +kernel) (by decide +kernel)), by decide, by decide +kernel, by decide +kernel, by decide +kernel⟩
theorem s_X10_76 : CS RX10 76 mX10_copies 4 := ⟨⟨cb_X10_copies _, rfl⟩, (inB 1649 (by decide +kernel) (by decide +kernel)), (inB 1650 (by decide +kernel) (by decide +kernel))⟩
theorem cb_X10_creditAt (own : String) : CB own mX10_creditAt 2 := ⟨inB 1695 (by decide +kernel) (by decide +kernel), (inB 82 (by decide +kernel) (by decide +kernel)), by decide, by decide +kernel, by decide +kernel, by decide +kernel⟩
theorem s_X10_83 : CS RX10 83 mX10_creditAt 2 := ⟨⟨cb_X10_creditAt _, rfl⟩, (inB 1693 (by decide +kernel) (by decide +kernel)), (inB 1694 (by decide +kernel) (by decide +kernel))⟩
theorem cb_X10_isLow (own : String) : CB own mX10_isLow 1 := ⟨inB 1670 (by decide +kernel) (by decide +kernel), (inB 82 (by decide +kernel) (by decide +kernel)), by decide, by decide +kernel, by decide +kernel, by decide +kernel⟩
theorem s_X10_123 : CS RX10 123 mX10_isLow 1 := ⟨⟨cb_X10_isLow _, rfl⟩, (inB 1668 (by decide +kernel) (by decide +kernel)), (inB 1669 (by decide +kernel) (by decide +kernel))⟩
theorem cb_X10_isCapital (own : String) : CB own mX10_isCapital 1 := ⟨inB 1676 (by decide +kernel) (by decide +kernel), (inB 82 (by decide +kernel) (by decide +kernel)), by decide, by decide +kernel, by decide +kernel, by decide +kernel⟩
theorem s_X10_126 : CS RX10 126 mX10_isCapital 1 := ⟨⟨cb_X10_isCapital _, rfl⟩, (inB 1674 (by decide +kernel) (by decide +kernel)), (inB 1675 (by decide +kernel) (by decide +kernel))⟩
theorem cb_X10_equalAt (own : String) : CB own mX10_equalAt 2 := ⟨inB 1769 (by decide +kernel) (by decide +kernel), (inB 82 (by decide +kernel) (by decide +kernel)), by decide, by decide +kernel, by decide +kernel, by decide +kernel⟩
theorem s_X10_156 : CS RX10 156 mX10_equalAt 2 := ⟨⟨cb_X10_equalAt _, rfl⟩, (inB 1767 (by decide +kernel) (by decide +kernel)), (inB 1768 (by decide +kernel) (by decide +kernel))⟩
theorem cb_X10_parts (own : String) : CB own mX10_parts 4 := ⟨inB 1860 (by decide +kernel) (by decide +kernel), (inB 82 (by decide +kernel) (by decide +kernel)), by decide, by decide +kernel, by decide +kernel, by decide +kernel⟩
theorem s_X10_217 : CS RX10 217 mX10_parts 4 := ⟨⟨cb_X10_parts _, rfl⟩, (inB 1858 (by decide +kernel) (by decide +kernel)), (inB 1859 (by decide +kernel) (by decide +kernel))⟩
theorem cb_X10_fails (own : String) : CB own mX10_fails 1 := ⟨inB 1684 (by decide +kernel) (by decide +kernel), (inB 82 (by decide +kernel) (by decide +kernel)), by decide, by decide +kernel, by decide +kernel, by decide +kernel⟩
theorem v_X10_57 : CV RX10 57 14 mX10_fails 1 := ⟨⟨cb_X10_fails _, rfl⟩, (inB 1681 (by decide +kernel) (by decide +kernel)), (inB 1683 (by decide +kernel) (by decide +kernel)), RX10, TX10, 27, (inB 28 (by decide +kernel) (by decide +kernel)), rfl⟩
theorem cb_X10_isGroup (own : String) : CB own mX10_isGroup 1 := ⟨inB 1727 (by decide +kernel) (by decide +kernel), (inB 82 (by decide +kernel) (by decide +kernel)), by decide, by decide +kernel, by decide +kernel, by decide +kernel⟩
theorem v_X10_86 : CV RX10 86 14 mX10_isGroup 1 := ⟨⟨cb_X10_isGroup _, rfl⟩, (inB 1724 (by decide +kernel) (by decide +kernel)), (inB 1726 (by decide +kernel) (by decide +kernel)), RX10, TX10, 27, (inB 36 (by decide +kernel) (by decide +kernel)), rfl⟩
theorem cb_X10_hasLetter (own : String) : CB own mX10_hasLetter 2 := ⟨inB 1734 (by decide +kernel) (by decide +kernel), (inB 82 (by decide +kernel) (by decide +kernel)), by decide, by decide +kernel, by decide +kernel, by decide +kernel⟩
theorem v_X10_90 : CV RX10 90 14 mX10_hasLetter 2 := ⟨⟨cb_X10_hasLetter _, rfl⟩, (inB 1731 (by decide +kernel) (by decide +kernel)), (inB 1733 (by decide +kernel) (by decide +kernel)), RX10, TX10, 27, (inB 37 (by decide +kernel) (by decide +kernel)), rfl⟩
theorem cb_X10_isOld (own : String) : CB own mX10_isOld 2 := ⟨inB 1738 (by decide +kernel) (by decide +kernel), (inB 82 (by decide +kernel) (by decide +kernel)), by decide, by decide +kernel, by decide +kernel, by decide +kernel⟩
theorem v_X10_94 : CV RX10 94 14 mX10_isOld 2 := ⟨⟨cb_X10_isOld _, rfl⟩, (inB 1735 (by decide +kernel) (by decide +kernel)), (inB 1737 (by decide +kernel) (by decide +kernel)), RX10, TX10, 27, (inB 38 (by decide +kernel) (by decide +kernel)), rfl⟩
theorem cb_X10_takes (own : String) : CB own mX10_takes 2 := ⟨inB 1723 (by decide +kernel) (by decide +kernel), (inB 82 (by decide +kernel) (by decide +kernel)), by decide, by decide +kernel, by decide +kernel, by decide +kernel⟩
theorem v_X10_106 : CV RX10 106 14 mX10_takes 2 := ⟨⟨cb_X10_takes _, rfl⟩, (inB 1720 (by decide +kernel) (by decide +kernel)), (inB 1722 (by decide +kernel) (by decide +kernel)), RX10, TX10, 27, (inB 35 (by decide +kernel) (by decide +kernel)), rfl⟩
theorem cb_X10_placeAfter (own : String) : CB own mX10_placeAfter 2 := ⟨inB 1750 (by decide +kernel) (by decide +kernel), (inB 82 (by decide +kernel) (by decide +kernel)), by decide, by decide +kernel, by decide +kernel, by decide +kernel⟩
theorem v_X10_109 : CV RX10 109 14 mX10_placeAfter 2 := ⟨⟨cb_X10_placeAfter _, rfl⟩, (inB 1747 (by decide +kernel) (by decide +kernel)), (inB 1749 (by decide +kernel) (by decide +kernel)), RX10, TX10, 27, (inB 41 (by decide +kernel) (by decide +kernel)), rfl⟩
theorem cb_X10_firstPlace (own : String) : CB own mX10_firstPlace 1 := ⟨inB 1719 (by decide +kernel) (by decide +kernel), (inB 82 (by decide +kernel) (by decide +kernel)), by decide, by decide +kernel, by decide +kernel, by decide +kernel⟩
theorem v_X10_112 : CV RX10 112 14 mX10_firstPlace 1 := ⟨⟨cb_X10_firstPlace _, rfl⟩, (inB 1716 (by decide +kernel) (by decide +kernel)), (inB 1718 (by decide +kernel) (by decide +kernel)), RX10, TX10, 27, (inB 34 (by decide +kernel) (by decide +kernel)), rfl⟩
theorem cb_X10_weighs (own : String) : CB own mX10_weighs 1 := ⟨inB 1742 (by decide +kernel) (by decide +kernel), (inB 82 (by decide +kernel) (by decide +kernel)), by decide, by decide +kernel, by decide +kernel, by decide +kernel⟩
theorem v_X10_115 : CV RX10 115 14 mX10_weighs 1 := ⟨⟨cb_X10_weighs _, rfl⟩, (inB 1739 (by decide +kernel) (by decide +kernel)), (inB 1741 (by decide +kernel) (by decide +kernel)), RX10, TX10, 27, (inB 39 (by decide +kernel) (by decide +kernel)), rfl⟩
theorem cb_X10_nextUse (own : String) : CB own mX10_nextUse 0 := ⟨inB 1746 (by decide +kernel) (by decide +kernel), (inB 82 (by decide +kernel) (by decide +kernel)), by decide, by decide +kernel, by decide +kernel, by decide +kernel⟩
theorem v_X10_119 : CV RX10 119 14 mX10_nextUse 0 := ⟨⟨cb_X10_nextUse _, rfl⟩, (inB 1743 (by decide +kernel) (by decide +kernel)), (inB 1745 (by decide +kernel) (by decide +kernel)), RX10, TX10, 27, (inB 40 (by decide +kernel) (by decide +kernel)), rfl⟩
theorem cb_X10_mayBe (own : String) : CB own mX10_mayBe 4 := ⟨inB 1667 (by decide +kernel) (by decide +kernel), (inB 82 (by decide +kernel) (by decide +kernel)), by decide, by decide +kernel, by decide +kernel, by decide +kernel⟩
theorem v_X10_129 : CV RX10 129 14 mX10_mayBe 4 := ⟨⟨cb_X10_mayBe _, rfl⟩, (inB 1664 (by decide +kernel) (by decide +kernel)), (inB 1666 (by decide +kernel) (by decide +kernel)), RX10, TX10, 27, (inB 26 (by decide +kernel) (by decide +kernel)), rfl⟩
theorem cb_X10_refuses (own : String) : CB own mX10_refuses 2 := ⟨inB 1680 (by decide +kernel) (by decide +kernel), (inB 82 (by decide +kernel) (by decide +kernel)), by decide, by decide +kernel, by decide +kernel, by decide +kernel⟩
theorem v_X10_133 : CV RX10 133 14 mX10_refuses 2 := ⟨⟨cb_X10_refuses _, rfl⟩, (inB 1677 (by decide +kernel) (by decide +kernel)), (inB 1679 (by decide +kernel) (by decide +kernel)), RX10, TX10, 27, (inB 27 (by decide +kernel) (by decide +kernel)), rfl⟩
theorem cb_X10_changes (own : String) : CB own mX10_changes 0 := ⟨inB 1688 (by decide +kernel) (by decide +kernel), (inB 82 (by decide +kernel) (by decide +kernel)), by decide, by decide +kernel, by decide +kernel, by decide +kernel⟩
theorem v_X10_136 : CV RX10 136 14 mX10_changes 0 := ⟨⟨cb_X10_changes _, rfl⟩, (inB 1685 (by decide +kernel) (by decide +kernel)), (inB 1687 (by decide +kernel) (by decide +kernel)), RX10, TX10, 27, (inB 29 (by decide +kernel) (by decide +kernel)), rfl⟩
theorem cb_X10_comes (own : String) : CB own mX10_comes 4 := ⟨inB 1692 (by decide +kernel) (by decide +kernel), (inB 82 (by decide +kernel) (by decide +kernel)), by decide, by decide +kernel, by decide +kernel, by decide +kernel⟩
theorem v_X10_139 : CV RX10 139 14 mX10_comes 4 := ⟨⟨cb_X10_comes _, rfl⟩, (inB 1689 (by decide +kernel) (by decide +kernel)), (inB 1691 (by decide +kernel) (by decide +kernel)), RX10, TX10, 27, (inB 30 (by decide +kernel) (by decide +kernel)), rfl⟩
theorem cb_X10_isCredit (own : String) : CB own mX10_isCredit 1 := ⟨inB 1703 (by decide +kernel) (by decide +kernel), (inB 82 (by decide +kernel) (by decide +kernel)), by decide, by decide +kernel, by decide +kernel, by decide +kernel⟩
theorem v_X10_143 : CV RX10 143 14 mX10_isCredit 1 := ⟨⟨cb_X10_isCredit _, rfl⟩, (inB 1700 (by decide +kernel) (by decide +kernel)), (inB 1702 (by decide +kernel) (by decide +kernel)), RX10, TX10, 27, (inB 31 (by decide +kernel) (by decide +kernel)), rfl⟩
theorem cb_X10_goes (own : String) : CB own mX10_goes 1 := ⟨inB 1707 (by decide +kernel) (by decide +kernel), (inB 82 (by decide +kernel) (by decide +kernel)), by decide, by decide +kernel, by decide +kernel, by decide +kernel⟩
theorem v_X10_146 : CV RX10 146 14 mX10_goes 1 := ⟨⟨cb_X10_goes _, rfl⟩, (inB 1704 (by decide +kernel) (by decide +kernel)), (inB 1706 (by decide +kernel) (by decide +kernel)), RX10, TX10, 27, (inB 32 (by decide +kernel) (by decide +kernel)), rfl⟩
theorem cb_X10_finds (own : String) : CB own mX10_finds 0 := ⟨inB 1715 (by decide +kernel) (by decide +kernel), (inB 82 (by decide +kernel) (by decide +kernel)), by decide, by decide +kernel, by decide +kernel, by decide +kernel⟩
theorem v_X10_150 : CV RX10 150 14 mX10_finds 0 := ⟨⟨cb_X10_finds _, rfl⟩, (inB 1712 (by decide +kernel) (by decide +kernel)), (inB 1714 (by decide +kernel) (by decide +kernel)), RX10, TX10, 27, (inB 33 (by decide +kernel) (by decide +kernel)), rfl⟩
theorem cb_X10_isBlock (own : String) : CB own mX10_isBlock 1 := ⟨inB 1762 (by decide +kernel) (by decide +kernel), (inB 82 (by decide +kernel) (by decide +kernel)), by decide, by decide +kernel, by decide +kernel, by decide +kernel⟩
theorem v_X10_153 : CV RX10 153 14 mX10_isBlock 1 := ⟨⟨cb_X10_isBlock _, rfl⟩, (inB 1759 (by decide +kernel) (by decide +kernel)), (inB 1761 (by decide +kernel) (by decide +kernel)), RX10, TX10, 27, (inB 42 (by decide +kernel) (by decide +kernel)), rfl⟩
theorem cb_X10_isEqual (own : String) : CB own mX10_isEqual 1 := ⟨inB 1777 (by decide +kernel) (by decide +kernel), (inB 82 (by decide +kernel) (by decide +kernel)), by decide, by decide +kernel, by decide +kernel, by decide +kernel⟩
theorem v_X10_159 : CV RX10 159 14 mX10_isEqual 1 := ⟨⟨cb_X10_isEqual _, rfl⟩, (inB 1774 (by decide +kernel) (by decide +kernel)), (inB 1776 (by decide +kernel) (by decide +kernel)), RX10, TX10, 27, (inB 43 (by decide +kernel) (by decide +kernel)), rfl⟩
theorem cb_X10_richest (own : String) : CB own mX10_richest 1 := ⟨inB 1789 (by decide +kernel) (by decide +kernel), (inB 82 (by decide +kernel) (by decide +kernel)), by decide, by decide +kernel, by decide +kernel, by decide +kernel⟩
theorem v_X10_162 : CV RX10 162 14 mX10_richest 1 := ⟨⟨cb_X10_richest _, rfl⟩, (inB 1786 (by decide +kernel) (by decide +kernel)), (inB 1788 (by decide +kernel) (by decide +kernel)), RX10, TX10, 27, (inB 45 (by decide +kernel) (by decide +kernel)), rfl⟩
theorem cb_X10_against (own : String) : CB own mX10_against 1 := ⟨inB 1785 (by decide +kernel) (by decide +kernel), (inB 82 (by decide +kernel) (by decide +kernel)), by decide, by decide +kernel, by decide +kernel, by decide +kernel⟩
theorem v_X10_165 : CV RX10 165 14 mX10_against 1 := ⟨⟨cb_X10_against _, rfl⟩, (inB 1782 (by decide +kernel) (by decide +kernel)), (inB 1784 (by decide +kernel) (by decide +kernel)), RX10, TX10, 27, (inB 44 (by decide +kernel) (by decide +kernel)), rfl⟩
theorem cb_X10_applies (own : String) : CB own mX10_applies 1 := ⟨inB 1793 (by decide +kernel) (by decide +kernel), (inB 82 (by decide +kernel) (by decide +kernel)), by decide, by decide +kernel, by decide +kernel, by decide +kernel⟩
theorem v_X10_168 : CV RX10 168 14 mX10_applies 1 := ⟨⟨cb_X10_applies _, rfl⟩, (inB 1790 (by decide +kernel) (by decide +kernel)), (inB 1792 (by decide +kernel) (by decide +kernel)), RX10, TX10, 27, (inB 46 (by decide +kernel) (by decide +kernel)), rfl⟩
theorem cb_X10_rootsNow (own : String) : CB own mX10_rootsNow 0 := ⟨inB 1805 (by decide +kernel) (by decide +kernel), (inB 82 (by decide +kernel) (by decide +kernel)), by decide, by decide +kernel, by decide +kernel, by decide +kernel⟩
theorem v_X10_171 : CV RX10 171 14 mX10_rootsNow 0 := ⟨⟨cb_X10_rootsNow _, rfl⟩, (inB 1802 (by decide +kernel) (by decide +kernel)), (inB 1804 (by decide +kernel) (by decide +kernel)), RX10, TX10, 27, (inB 48 (by decide +kernel) (by decide +kernel)), rfl⟩
theorem cb_X10_rootsThen (own : String) : CB own mX10_rootsThen 1 := ⟨inB 1801 (by decide +kernel) (by decide +kernel), (inB 82 (by decide +kernel) (by decide +kernel)), by decide, by decide +kernel, by decide +kernel, by decide +kernel⟩
theorem v_X10_175 : CV RX10 175 14 mX10_rootsThen 1 := ⟨⟨cb_X10_rootsThen _, rfl⟩, (inB 1798 (by decide +kernel) (by decide +kernel)), (inB 1800 (by decide +kernel) (by decide +kernel)), RX10, TX10, 27, (inB 47 (by decide +kernel) (by decide +kernel)), rfl⟩
theorem cb_X10_here (own : String) : CB own mX10_here 0 := ⟨inB 1825 (by decide +kernel) (by decide +kernel), (inB 82 (by decide +kernel) (by decide +kernel)), by decide, by decide +kernel, by decide +kernel, by decide +kernel⟩
theorem v_X10_184 : CV RX10 184 14 mX10_here 0 := ⟨⟨cb_X10_here _, rfl⟩, (inB 1822 (by decide +kernel) (by decide +kernel)), (inB 1824 (by decide +kernel) (by decide +kernel)), RX10, TX10, 27, (inB 50 (by decide +kernel) (by decide +kernel)), rfl⟩
theorem cb_X10_begins (own : String) : CB own mX10_begins 1 := ⟨inB 1833 (by decide +kernel) (by decide +kernel), (inB 82 (by decide +kernel) (by decide +kernel)), by decide, by decide +kernel, by decide +kernel, by decide +kernel⟩
theorem v_X10_196 : CV RX10 196 14 mX10_begins 1 := ⟨⟨cb_X10_begins _, rfl⟩, (inB 1830 (by decide +kernel) (by decide +kernel)), (inB 1832 (by decide +kernel) (by decide +kernel)), RX10, TX10, 27, (inB 52 (by decide +kernel) (by decide +kernel)), rfl⟩
theorem cb_X10_isNew (own : String) : CB own mX10_isNew 2 := ⟨inB 1845 (by decide +kernel) (by decide +kernel), (inB 82 (by decide +kernel) (by decide +kernel)), by decide, by decide +kernel, by decide +kernel, by decide +kernel⟩
theorem v_X10_199 : CV RX10 199 14 mX10_isNew 2 := ⟨⟨cb_X10_isNew _, rfl⟩, (inB 1842 (by decide +kernel) (by decide +kernel)), (inB 1844 (by decide +kernel) (by decide +kernel)), RX10, TX10, 27, (inB 55 (by decide +kernel) (by decide +kernel)), rfl⟩
theorem cb_X10_digits (own : String) : CB own mX10_digits 0 := ⟨inB 1849 (by decide +kernel) (by decide +kernel), (inB 82 (by decide +kernel) (by decide +kernel)), by decide, by decide +kernel, by decide +kernel, by decide +kernel⟩
theorem v_X10_202 : CV RX10 202 14 mX10_digits 0 := ⟨⟨cb_X10_digits _, rfl⟩, (inB 1846 (by decide +kernel) (by decide +kernel)), (inB 1848 (by decide +kernel) (by decide +kernel)), RX10, TX10, 27, (inB 56 (by decide +kernel) (by decide +kernel)), rfl⟩
theorem cb_X10_skips (own : String) : CB own mX10_skips 1 := ⟨inB 1837 (by decide +kernel) (by decide +kernel), (inB 82 (by decide +kernel) (by decide +kernel)), by decide, by decide +kernel, by decide +kernel, by decide +kernel⟩
theorem v_X10_205 : CV RX10 205 14 mX10_skips 1 := ⟨⟨cb_X10_skips _, rfl⟩, (inB 1834 (by decide +kernel) (by decide +kernel)), (inB 1836 (by decide +kernel) (by decide +kernel)), RX10, TX10, 27, (inB 53 (by decide +kernel) (by decide +kernel)), rfl⟩
theorem cb_X10_group (own : String) : CB own mX10_group 0 := ⟨inB 1829 (by decide +kernel) (by decide +kernel), (inB 82 (by decide +kernel) (by decide +kernel)), by decide, by decide +kernel, by decide +kernel, by decide +kernel⟩
theorem v_X10_208 : CV RX10 208 14 mX10_group 0 := ⟨⟨cb_X10_group _, rfl⟩, (inB 1826 (by decide +kernel) (by decide +kernel)), (inB 1828 (by decide +kernel) (by decide +kernel)), RX10, TX10, 27, (inB 51 (by decide +kernel) (by decide +kernel)), rfl⟩
theorem cb_X10_leaf (own : String) : CB own mX10_leaf 0 := ⟨inB 1841 (by decide +kernel) (by decide +kernel), (inB 82 (by decide +kernel) (by decide +kernel)), by decide, by decide +kernel, by decide +kernel, by decide +kernel⟩
theorem v_X10_211 : CV RX10 211 14 mX10_leaf 0 := ⟨⟨cb_X10_leaf _, rfl⟩, (inB 1838 (by decide +kernel) (by decide +kernel)), (inB 1840 (by decide +kernel) (by decide +kernel)), RX10, TX10, 27, (inB 54 (by decide +kernel) (by decide +kernel)), rfl⟩
theorem cb_X10_follows (own : String) : CB own mX10_follows 0 := ⟨inB 1853 (by decide +kernel) (by decide +kernel), (inB 82 (by decide +kernel) (by decide +kernel)), by decide, by decide +kernel, by decide +kernel, by decide +kernel⟩
theorem v_X10_214 : CV RX10 214 14 mX10_follows 0 := ⟨⟨cb_X10_follows _, rfl⟩, (inB 1850 (by decide +kernel) (by decide +kernel)), (inB 1852 (by decide +kernel) (by decide +kernel)), RX10, TX10, 27, (inB 57 (by decide +kernel) (by decide +kernel)), rfl⟩
theorem cb_X10_isText (own : String) : CB own mX10_isText 0 := ⟨inB 1821 (by decide +kernel) (by decide +kernel), (inB 82 (by decide +kernel) (by decide +kernel)), by decide, by decide +kernel, by decide +kernel, by decide +kernel⟩
theorem v_X10_221 : CV RX10 221 14 mX10_isText 0 := ⟨⟨cb_X10_isText _, rfl⟩, (inB 1818 (by decide +kernel) (by decide +kernel)), (inB 1820 (by decide +kernel) (by decide +kernel)), RX10, TX10, 27, (inB 49 (by decide +kernel) (by decide +kernel)), rfl⟩
theorem cb_X10_refusedBy (own : String) : CB own mX10_refusedBy 0 := ⟨inB 1857 (by decide +kernel) (by decide +kernel), (inB 82 (by decide +kernel) (by decide +kernel)), by decide, by decide +kernel, by decide +kernel, by decide +kernel⟩
theorem v_X10_224 : CV RX10 224 14 mX10_refusedBy 0 := ⟨⟨cb_X10_refusedBy _, rfl⟩, (inB 1854 (by decide +kernel) (by decide +kernel)), (inB 1856 (by decide +kernel) (by decide +kernel)), RX10, TX10, 27, (inB 58 (by decide +kernel) (by decide +kernel)), rfl⟩
theorem cb_X10_isWithin (own : String) : CB own mX10_isWithin 2 := ⟨inB 1896 (by decide +kernel) (by decide +kernel), (inB 82 (by decide +kernel) (by decide +kernel)), by decide, by decide +kernel, by decide +kernel, by decide +kernel⟩
theorem v_X10_227 : CV RX10 227 14 mX10_isWithin 2 := ⟨⟨cb_X10_isWithin _, rfl⟩, (inB 1893 (by decide +kernel) (by decide +kernel)), (inB 1895 (by decide +kernel) (by decide +kernel)), RX10, TX10, 27, (inB 59 (by decide +kernel) (by decide +kernel)), rfl⟩
theorem cb_X10_allRoots (own : String) : CB own mX10_allRoots 0 := ⟨inB 1908 (by decide +kernel) (by decide +kernel), (inB 82 (by decide +kernel) (by decide +kernel)), by decide, by decide +kernel, by decide +kernel, by decide +kernel⟩
theorem v_X10_230 : CV RX10 230 14 mX10_allRoots 0 := ⟨⟨cb_X10_allRoots _, rfl⟩, (inB 1905 (by decide +kernel) (by decide +kernel)), (inB 1907 (by decide +kernel) (by decide +kernel)), RX10, TX10, 27, (inB 60 (by decide +kernel) (by decide +kernel)), rfl⟩
theorem cb_X10_lays (own : String) : CB own mX10_lays 2 := ⟨inB 1928 (by decide +kernel) (by decide +kernel), (inB 82 (by decide +kernel) (by decide +kernel)), by decide, by decide +kernel, by decide +kernel, by decide +kernel⟩
theorem v_X10_236 : CV RX10 236 14 mX10_lays 2 := ⟨⟨cb_X10_lays _, rfl⟩, (inB 1925 (by decide +kernel) (by decide +kernel)), (inB 1927 (by decide +kernel) (by decide +kernel)), RX10, TX10, 27, (inB 62 (by decide +kernel) (by decide +kernel)), rfl⟩
theorem cb_X10_firstUnmet (own : String) : CB own mX10_firstUnmet 1 := ⟨inB 1932 (by decide +kernel) (by decide +kernel), (inB 82 (by decide +kernel) (by decide +kernel)), by decide, by decide +kernel, by decide +kernel, by decide +kernel⟩
theorem v_X10_240 : CV RX10 240 14 mX10_firstUnmet 1 := ⟨⟨cb_X10_firstUnmet _, rfl⟩, (inB 1929 (by decide +kernel) (by decide +kernel)), (inB 1931 (by decide +kernel) (by decide +kernel)), RX10, TX10, 27, (inB 63 (by decide +kernel) (by decide +kernel)), rfl⟩
theorem cb_X10_findLayers (own : String) : CB own mX10_findLayers 1 := ⟨inB 1924 (by decide +kernel) (by decide +kernel), (inB 82 (by decide +kernel) (by decide +kernel)), by decide, by decide +kernel, by decide +kernel, by decide +kernel⟩
theorem v_X10_243 : CV RX10 243 14 mX10_findLayers 1 := ⟨⟨cb_X10_findLayers _, rfl⟩, (inB 1921 (by decide +kernel) (by decide +kernel)), (inB 1923 (by decide +kernel) (by decide +kernel)), RX10, TX10, 27, (inB 61 (by decide +kernel) (by decide +kernel)), rfl⟩
theorem cb_X10_allLeaves (own : String) : CB own mX10_allLeaves 0 := ⟨inB 1952 (by decide +kernel) (by decide +kernel), (inB 82 (by decide +kernel) (by decide +kernel)), by decide, by decide +kernel, by decide +kernel, by decide +kernel⟩
theorem v_X10_246 : CV RX10 246 14 mX10_allLeaves 0 := ⟨⟨cb_X10_allLeaves _, rfl⟩, (inB 1949 (by decide +kernel) (by decide +kernel)), (inB 1951 (by decide +kernel) (by decide +kernel)), RX10, TX10, 27, (inB 64 (by decide +kernel) (by decide +kernel)), rfl⟩
theorem cb_X10_allPoints (own : String) : CB own mX10_allPoints 0 := ⟨inB 1956 (by decide +kernel) (by decide +kernel), (inB 82 (by decide +kernel) (by decide +kernel)), by decide, by decide +kernel, by decide +kernel, by decide +kernel⟩
theorem v_X10_249 : CV RX10 249 14 mX10_allPoints 0 := ⟨⟨cb_X10_allPoints _, rfl⟩, (inB 1953 (by decide +kernel) (by decide +kernel)), (inB 1955 (by decide +kernel) (by decide +kernel)), RX10, TX10, 27, (inB 65 (by decide +kernel) (by decide +kernel)), rfl⟩
theorem cb_X10_unused (own : String) : CB own mX10_unused 0 := ⟨inB 1960 (by decide +kernel) (by decide +kernel), (inB 82 (by decide +kernel) (by decide +kernel)), by decide, by decide +kernel, by decide +kernel, by decide +kernel⟩
theorem v_X10_252 : CV RX10 252 14 mX10_unused 0 := ⟨⟨cb_X10_unused _, rfl⟩, (inB 1957 (by decide +kernel) (by decide +kernel)), (inB 1959 (by decide +kernel) (by decide +kernel)), RX10, TX10, 27, (inB 66 (by decide +kernel) (by decide +kernel)), rfl⟩
theorem p_X10_7 : FP RX10 14 0 (.array .int) := ⟨RX10, TX10, 27, tyX10, rfl, tyX10_ok, nmX10, tyX10_ok 0 (by decide), fun _ => rfl⟩
theorem ff_14_0 : FF 14 0 "<init>" := fun _ _ _ _ _ => rfl
theorem p_X10_13 : FP RX10 14 1 (.array .int) := ⟨RX10, TX10, 27, tyX10, rfl, tyX10_ok, nmX10, tyX10_ok 1 (by decide), fun _ => rfl⟩
theorem ff_14_1 : FF 14 1 "<init>" := fun _ _ _ _ _ => rfl
theorem p_X10_16 : FP RX10 14 2 (.array .int) := ⟨RX10, TX10, 27, tyX10, rfl, tyX10_ok, nmX10, tyX10_ok 2 (by decide), fun _ => rfl⟩
theorem ff_14_2 : FF 14 2 "<init>" := fun _ _ _ _ _ => rfl
theorem p_X10_19 : FP RX10 14 4 (.array .int) := ⟨RX10, TX10, 27, tyX10, rfl, tyX10_ok, nmX10, tyX10_ok 4 (by decide), fun _ => rfl⟩
theorem ff_14_4 : FF 14 4 "<init>" := fun _ _ _ _ _ => rfl
theorem p_X10_22 : FP RX10 14 9 (.array .int) := ⟨RX10, TX10, 27, tyX10, rfl, tyX10_ok, nmX10, tyX10_ok 9 (by decide), fun _ => rfl⟩
theorem ff_14_9 : FF 14 9 "<init>" := fun _ _ _ _ _ => rfl
theorem p_X10_25 : FP RX10 14 10 (.array .int) := ⟨RX10, TX10, 27, tyX10, rfl, tyX10_ok, nmX10, tyX10_ok 10 (by decide), fun _ => rfl⟩
theorem ff_14_10 : FF 14 10 "<init>" := fun _ _ _ _ _ => rfl
theorem p_X10_28 : FP RX10 14 11 (.array .int) := ⟨RX10, TX10, 27, tyX10, rfl, tyX10_ok, nmX10, tyX10_ok 11 (by decide), fun _ => rfl⟩
theorem ff_14_11 : FF 14 11 "<init>" := fun _ _ _ _ _ => rfl
theorem p_X10_31 : FP RX10 14 12 (.array .boolean) := ⟨RX10, TX10, 27, tyX10, rfl, tyX10_ok, nmX10, tyX10_ok 12 (by decide), fun _ => rfl⟩
theorem ff_14_12 : FF 14 12 "<init>" := fun _ _ _ _ _ => rfl
theorem p_X10_35 : FP RX10 14 16 (.array .int) := ⟨RX10, TX10, 27, tyX10, rfl, tyX10_ok, nmX10, tyX10_ok 16 (by decide), fun _ => rfl⟩
theorem ff_14_16 : FF 14 16 "<init>" := fun _ _ _ _ _ => rfl
theorem p_X10_38 : FP RX10 14 20 (.int) := ⟨RX10, TX10, 27, tyX10, rfl, tyX10_ok, nmX10, tyX10_ok 20 (by decide), fun h => absurd h (by decide)⟩
theorem ff_14_20 (nm : String) : FF 14 20 nm := fun _ _ _ h1 h2 => by
  cases h1
  exact absurd h2 (by decide)
theorem p_X10_42 : FP RX10 14 21 (.array .int) := ⟨RX10, TX10, 27, tyX10, rfl, tyX10_ok, nmX10, tyX10_ok 21 (by decide), fun _ => rfl⟩
theorem ff_14_21 : FF 14 21 "<init>" := fun _ _ _ _ _ => rfl
theorem p_X10_45 : FP RX10 14 24 (.array .int) := ⟨RX10, TX10, 27, tyX10, rfl, tyX10_ok, nmX10, tyX10_ok 24 (by decide), fun _ => rfl⟩
theorem ff_14_24 : FF 14 24 "<init>" := fun _ _ _ _ _ => rfl
theorem p_X10_48 : FP RX10 14 25 (.array .int) := ⟨RX10, TX10, 27, tyX10, rfl, tyX10_ok, nmX10, tyX10_ok 25 (by decide), fun _ => rfl⟩
theorem ff_14_25 : FF 14 25 "<init>" := fun _ _ _ _ _ => rfl
theorem p_X10_51 : FP RX10 14 7 (.int) := ⟨RX10, TX10, 27, tyX10, rfl, tyX10_ok, nmX10, tyX10_ok 7 (by decide), fun h => absurd h (by decide)⟩
theorem ff_14_7 (nm : String) : FF 14 7 nm := fun _ _ _ h1 h2 => by
  cases h1
  exact absurd h2 (by decide)
theorem p_X10_54 : FP RX10 14 6 (.int) := ⟨RX10, TX10, 27, tyX10, rfl, tyX10_ok, nmX10, tyX10_ok 6 (by decide), fun h => absurd h (by decide)⟩
theorem ff_14_6 (nm : String) : FF 14 6 nm := fun _ _ _ h1 h2 => by
  cases h1
  exact absurd h2 (by decide)
theorem p_X10_69 : FP RX10 14 8 (.boolean) := ⟨RX10, TX10, 27, tyX10, rfl, tyX10_ok, nmX10, tyX10_ok 8 (by decide), fun h => absurd h (by decide)⟩
theorem ff_14_8 (nm : String) : FF 14 8 nm := fun _ _ _ h1 h2 => by
  cases h1
  exact absurd h2 (by decide)
theorem p_X10_73 : FP RX10 14 5 (.int) := ⟨RX10, TX10, 27, tyX10, rfl, tyX10_ok, nmX10, tyX10_ok 5 (by decide), fun h => absurd h (by decide)⟩
theorem ff_14_5 (nm : String) : FF 14 5 nm := fun _ _ _ h1 h2 => by
  cases h1
  exact absurd h2 (by decide)
theorem p_X10_80 : FP RX10 14 3 (.boolean) := ⟨RX10, TX10, 27, tyX10, rfl, tyX10_ok, nmX10, tyX10_ok 3 (by decide), fun h => absurd h (by decide)⟩
theorem ff_14_3 (nm : String) : FF 14 3 nm := fun _ _ _ h1 h2 => by
  cases h1
  exact absurd h2 (by decide)
theorem p_X10_97 : FP RX10 14 15 (.int) := ⟨RX10, TX10, 27, tyX10, rfl, tyX10_ok, nmX10, tyX10_ok 15 (by decide), fun h => absurd h (by decide)⟩
theorem ff_14_15 (nm : String) : FF 14 15 nm := fun _ _ _ h1 h2 => by
  cases h1
  exact absurd h2 (by decide)
theorem p_X10_100 : FP RX10 14 13 (.int) := ⟨RX10, TX10, 27, tyX10, rfl, tyX10_ok, nmX10, tyX10_ok 13 (by decide), fun h => absurd h (by decide)⟩
theorem ff_14_13 (nm : String) : FF 14 13 nm := fun _ _ _ h1 h2 => by
  cases h1
  exact absurd h2 (by decide)
theorem p_X10_103 : FP RX10 14 14 (.int) := ⟨RX10, TX10, 27, tyX10, rfl, tyX10_ok, nmX10, tyX10_ok 14 (by decide), fun h => absurd h (by decide)⟩
theorem ff_14_14 (nm : String) : FF 14 14 nm := fun _ _ _ h1 h2 => by
  cases h1
  exact absurd h2 (by decide)
theorem p_X10_178 : FP RX10 14 17 (.int) := ⟨RX10, TX10, 27, tyX10, rfl, tyX10_ok, nmX10, tyX10_ok 17 (by decide), fun h => absurd h (by decide)⟩
theorem ff_14_17 (nm : String) : FF 14 17 nm := fun _ _ _ h1 h2 => by
  cases h1
  exact absurd h2 (by decide)
theorem p_X10_181 : FP RX10 14 18 (.int) := ⟨RX10, TX10, 27, tyX10, rfl, tyX10_ok, nmX10, tyX10_ok 18 (by decide), fun h => absurd h (by decide)⟩
theorem ff_14_18 (nm : String) : FF 14 18 nm := fun _ _ _ h1 h2 => by
  cases h1
  exact absurd h2 (by decide)
theorem p_X10_187 : FP RX10 14 19 (.int) := ⟨RX10, TX10, 27, tyX10, rfl, tyX10_ok, nmX10, tyX10_ok 19 (by decide), fun h => absurd h (by decide)⟩
theorem ff_14_19 (nm : String) : FF 14 19 nm := fun _ _ _ h1 h2 => by
  cases h1
  exact absurd h2 (by decide)
theorem p_X10_190 : FP RX10 14 22 (.int) := ⟨RX10, TX10, 27, tyX10, rfl, tyX10_ok, nmX10, tyX10_ok 22 (by decide), fun h => absurd h (by decide)⟩
theorem ff_14_22 (nm : String) : FF 14 22 nm := fun _ _ _ h1 h2 => by
  cases h1
  exact absurd h2 (by decide)
theorem p_X10_193 : FP RX10 14 23 (.int) := ⟨RX10, TX10, 27, tyX10, rfl, tyX10_ok, nmX10, tyX10_ok 23 (by decide), fun h => absurd h (by decide)⟩
theorem ff_14_23 (nm : String) : FF 14 23 nm := fun _ _ _ h1 h2 => by
  cases h1
  exact absurd h2 (by decide)
theorem p_X10_233 : FP RX10 14 26 (.int) := ⟨RX10, TX10, 27, tyX10, rfl, tyX10_ok, nmX10, tyX10_ok 26 (by decide), fun h => absurd h (by decide)⟩
theorem ff_14_26 (nm : String) : FF 14 26 nm := fun _ _ _ h1 h2 => by
  cases h1
  exact absurd h2 (by decide)
theorem o_X2_1 : Cond.methodLink RX2 1 objectInit ∈ BIG := (inB 625 (by decide +kernel) (by decide +kernel))
theorem f_X2_7 : FL RX2 7 6 0 := ⟨RX2, TX2, 4, "CreditTransfer$Credit", rfl, by decide, inw6, (inB 626 (by decide +kernel) (by decide +kernel)), Or.inl rfl⟩
theorem p_X2_7 : FP RX2 6 0 (.char) := ⟨RX2, TX2, 4, tyX2, rfl, tyX2_ok, nmX2, tyX2_ok 0 (by decide), fun _ => rfl⟩
theorem ff_6_0 : FF 6 0 "<init>" := fun _ _ _ _ _ => rfl
theorem f_X2_13 : FL RX2 13 6 1 := ⟨RX2, TX2, 4, "CreditTransfer$Credit", rfl, by decide, inw6, (inB 630 (by decide +kernel) (by decide +kernel)), Or.inl rfl⟩
theorem p_X2_13 : FP RX2 6 1 (.int) := ⟨RX2, TX2, 4, tyX2, rfl, tyX2_ok, nmX2, tyX2_ok 1 (by decide), fun _ => rfl⟩
theorem ff_6_1 : FF 6 1 "<init>" := fun _ _ _ _ _ => rfl
theorem f_X2_17 : FL RX2 17 6 2 := ⟨RX2, TX2, 4, "CreditTransfer$Credit", rfl, by decide, inw6, (inB 634 (by decide +kernel) (by decide +kernel)), Or.inl rfl⟩
theorem p_X2_17 : FP RX2 6 2 (.int) := ⟨RX2, TX2, 4, tyX2, rfl, tyX2_ok, nmX2, tyX2_ok 2 (by decide), fun _ => rfl⟩
theorem ff_6_2 : FF 6 2 "<init>" := fun _ _ _ _ _ => rfl
theorem f_X2_20 : FL RX2 20 6 3 := ⟨RX2, TX2, 4, "CreditTransfer$Credit", rfl, by decide, inw6, (inB 640 (by decide +kernel) (by decide +kernel)), Or.inl rfl⟩
theorem p_X2_20 : FP RX2 6 3 (.int) := ⟨RX2, TX2, 4, tyX2, rfl, tyX2_ok, nmX2, tyX2_ok 3 (by decide), fun _ => rfl⟩
theorem ff_6_3 : FF 6 3 "<init>" := fun _ _ _ _ _ => rfl
theorem a_X3_27 : Cond.classLink RX3 27 RX2 ∈ BIG := (inB 657 (by decide +kernel) (by decide +kernel))
theorem a_X3_32 : Cond.classLink RX3 32 RX4 ∈ BIG := (inB 826 (by decide +kernel) (by decide +kernel))
theorem f_X3_9 : FL RX3 9 7 0 := ⟨RX3, TX3, 4, "CreditTransfer$Desk", rfl, by decide, inw7, (inB 266 (by decide +kernel) (by decide +kernel)), Or.inl rfl⟩
theorem f_X3_15 : FL RX3 15 7 1 := ⟨RX3, TX3, 4, "CreditTransfer$Desk", rfl, by decide, inw7, (inB 270 (by decide +kernel) (by decide +kernel)), Or.inl rfl⟩
theorem f_X3_19 : FL RX3 19 7 2 := ⟨RX3, TX3, 4, "CreditTransfer$Desk", rfl, by decide, inw7, (inB 274 (by decide +kernel) (by decide +kernel)), Or.inl rfl⟩
theorem f_X3_23 : FL RX3 23 7 3 := ⟨RX3, TX3, 4, "CreditTransfer$Desk", rfl, by decide, inw7, (inB 276 (by decide +kernel) (by decide +kernel)), Or.inl rfl⟩
theorem f_X3_55 : FL RX3 55 6 1 := ⟨RX2, TX2, 4, "CreditTransfer$Credit", rfl, by decide, inw6, (inB 633 (by decide +kernel) (by decide +kernel)), Or.inl rfl⟩
theorem f_X3_58 : FL RX3 58 6 2 := ⟨RX2, TX2, 4, "CreditTransfer$Credit", rfl, by decide, inw6, (inB 638 (by decide +kernel) (by decide +kernel)), Or.inl rfl⟩
theorem f_X3_67 : FL RX3 67 6 3 := ⟨RX2, TX2, 4, "CreditTransfer$Credit", rfl, by decide, inw6, (inB 643 (by decide +kernel) (by decide +kernel)), Or.inl rfl⟩
theorem f_X3_72 : FL RX3 72 8 2 := ⟨RX4, TX4, 4, "CreditTransfer$Equivalence", rfl, by decide, inw8, (inB 809 (by decide +kernel) (by decide +kernel)), Or.inl rfl⟩
theorem f_X3_83 : FL RX3 83 8 3 := ⟨RX4, TX4, 4, "CreditTransfer$Equivalence", rfl, by decide, inw8, (inB 812 (by decide +kernel) (by decide +kernel)), Or.inl rfl⟩
theorem f_X3_86 : FL RX3 86 10 0 := ⟨RX6, TX6, 5, "CreditTransfer$Program", rfl, by decide, inw10, (inB 243 (by decide +kernel) (by decide +kernel)), Or.inl rfl⟩
theorem f_X3_106 : FL RX3 106 8 0 := ⟨RX4, TX4, 4, "CreditTransfer$Equivalence", rfl, by decide, inw8, (inB 803 (by decide +kernel) (by decide +kernel)), Or.inl rfl⟩
theorem f_X3_116 : FL RX3 116 8 1 := ⟨RX4, TX4, 4, "CreditTransfer$Equivalence", rfl, by decide, inw8, (inB 806 (by decide +kernel) (by decide +kernel)), Or.inl rfl⟩
theorem f_X3_119 : FL RX3 119 6 0 := ⟨RX2, TX2, 4, "CreditTransfer$Credit", rfl, by decide, inw6, (inB 629 (by decide +kernel) (by decide +kernel)), Or.inl rfl⟩
theorem o_X3_3 : Cond.methodLink RX3 3 objectInit ∈ BIG := (inB 265 (by decide +kernel) (by decide +kernel))
theorem cb_X3_init (own : String) : CB own mX3_init 4 := ⟨inB 264 (by decide +kernel) (by decide +kernel), (inB 75 (by decide +kernel) (by decide +kernel)), by decide, by decide +kernel, by decide +kernel, by decide +kernel⟩
theorem i_X3_29 : CI RX3 29 mX3_init 4 := ⟨⟨cb_X3_init _, rfl⟩, (inB 659 (by decide +kernel) (by decide +kernel)), (inB 263 (by decide +kernel) (by decide +kernel)), rfl, rfl⟩
theorem cb_X2_init (own : String) : CB own mX2_init 4 := ⟨inB 624 (by decide +kernel) (by decide +kernel), (inB 88 (by decide +kernel) (by decide +kernel)), by decide, by decide +kernel, by decide +kernel, by decide +kernel⟩
theorem i_X3_76 : CI RX3 76 mX2_init 4 := ⟨⟨cb_X2_init _, rfl⟩, (inB 876 (by decide +kernel) (by decide +kernel)), (inB 623 (by decide +kernel) (by decide +kernel)), rfl, rfl⟩
theorem s_X3_38 : CS RX3 38 mJ6_bitCount_0f7a4 1 := ⟨⟨cb_J6_bitCount_0f7a4 _, rfl⟩, (inB 860 (by decide +kernel) (by decide +kernel)), (inB 235 (by decide +kernel) (by decide +kernel))⟩
theorem s_X3_51 : CSN RX3 51 mX9_isInSet 2 := ⟨⟨cb_X9_isInSet _, rfl⟩, by decide +kernel, (inB 229 (by decide +kernel) (by decide +kernel))⟩
theorem s_X3_61 : CS RX3 61 mJ9_min_7cf53 2 := ⟨⟨cb_J9_min_7cf53 _, rfl⟩, (inB 874 (by decide +kernel) (by decide +kernel)), (inB 223 (by decide +kernel) (by decide +kernel))⟩
theorem cb_X3_singleton (own : String) : CB own mX3_singleton 1 := ⟨inB 859 (by decide +kernel) (by decide +kernel), (inB 75 (by decide +kernel) (by decide +kernel)), by decide, by decide +kernel, by decide +kernel, by decide +kernel⟩
theorem s_X3_113 : CS RX3 113 mX3_singleton 1 := ⟨⟨cb_X3_singleton _, rfl⟩, (inB 857 (by decide +kernel) (by decide +kernel)), (inB 858 (by decide +kernel) (by decide +kernel))⟩
theorem cb_X3_goingSet (own : String) : CB own mX3_goingSet 1 := ⟨inB 852 (by decide +kernel) (by decide +kernel), (inB 75 (by decide +kernel) (by decide +kernel)), by decide, by decide +kernel, by decide +kernel, by decide +kernel⟩
theorem v_X3_34 : CV RX3 34 7 mX3_goingSet 1 := ⟨⟨cb_X3_goingSet _, rfl⟩, (inB 849 (by decide +kernel) (by decide +kernel)), (inB 851 (by decide +kernel) (by decide +kernel)), RX3, TX3, 4, (inB 9 (by decide +kernel) (by decide +kernel)), rfl⟩
theorem cb_X4_goingCount (own : String) : CB own mX4_goingCount 0 := ⟨inB 864 (by decide +kernel) (by decide +kernel), (inB 95 (by decide +kernel) (by decide +kernel)), by decide, by decide +kernel, by decide +kernel, by decide +kernel⟩
theorem v_X3_44 : CV RX3 44 8 mX4_goingCount 0 := ⟨⟨cb_X4_goingCount _, rfl⟩, (inB 861 (by decide +kernel) (by decide +kernel)), (inB 862 (by decide +kernel) (by decide +kernel)), RX4, TX4, 4, (inB 863 (by decide +kernel) (by decide +kernel)), rfl⟩
theorem cb_X4_comingCount (own : String) : CB own mX4_comingCount 0 := ⟨inB 868 (by decide +kernel) (by decide +kernel), (inB 95 (by decide +kernel) (by decide +kernel)), by decide, by decide +kernel, by decide +kernel, by decide +kernel⟩
theorem v_X3_48 : CV RX3 48 8 mX4_comingCount 0 := ⟨⟨cb_X4_comingCount _, rfl⟩, (inB 865 (by decide +kernel) (by decide +kernel)), (inB 866 (by decide +kernel) (by decide +kernel)), RX4, TX4, 4, (inB 867 (by decide +kernel) (by decide +kernel)), rfl⟩
theorem cb_X3_withoutCredit (own : String) : CB own mX3_withoutCredit 1 := ⟨inB 729 (by decide +kernel) (by decide +kernel), (inB 75 (by decide +kernel) (by decide +kernel)), by decide, by decide +kernel, by decide +kernel, by decide +kernel⟩
theorem v_X3_68 : CV RX3 68 7 mX3_withoutCredit 1 := ⟨⟨cb_X3_withoutCredit _, rfl⟩, (inB 875 (by decide +kernel) (by decide +kernel)), (inB 727 (by decide +kernel) (by decide +kernel)), RX3, TX3, 4, (inB 728 (by decide +kernel) (by decide +kernel)), rfl⟩
theorem cb_X3_withCredit (own : String) : CB own mX3_withCredit 1 := ⟨inB 656 (by decide +kernel) (by decide +kernel), (inB 75 (by decide +kernel) (by decide +kernel)), by decide, by decide +kernel, by decide +kernel, by decide +kernel⟩
theorem v_X3_79 : CV RX3 79 7 mX3_withCredit 1 := ⟨⟨cb_X3_withCredit _, rfl⟩, (inB 877 (by decide +kernel) (by decide +kernel)), (inB 654 (by decide +kernel) (by decide +kernel)), RX3, TX3, 4, (inB 655 (by decide +kernel) (by decide +kernel)), rfl⟩
theorem v_X3_92 : CV RX3 92 5 mX1_takes 2 := ⟨⟨cb_X1_takes _, rfl⟩, (inB 745 (by decide +kernel) (by decide +kernel)), (inB 399 (by decide +kernel) (by decide +kernel)), RX1, TX1, 6, (inB 400 (by decide +kernel) (by decide +kernel)), rfl⟩
theorem v_X3_98 : CV RX3 98 5 mX1_names 1 := ⟨⟨cb_X1_names _, rfl⟩, (inB 1424 (by decide +kernel) (by decide +kernel)), (inB 403 (by decide +kernel) (by decide +kernel)), RX1, TX1, 6, (inB 404 (by decide +kernel) (by decide +kernel)), rfl⟩
theorem v_X3_102 : CV RX3 102 5 mX1_lastYearFor 1 := ⟨⟨cb_X1_lastYearFor _, rfl⟩, (inB 1425 (by decide +kernel) (by decide +kernel)), (inB 490 (by decide +kernel) (by decide +kernel)), RX1, TX1, 6, (inB 491 (by decide +kernel) (by decide +kernel)), rfl⟩
theorem cb_X3_takenFor (own : String) : CB own mX3_takenFor 1 := ⟨inB 856 (by decide +kernel) (by decide +kernel), (inB 75 (by decide +kernel) (by decide +kernel)), by decide, by decide +kernel, by decide +kernel, by decide +kernel⟩
theorem v_X3_109 : CV RX3 109 7 mX3_takenFor 1 := ⟨⟨cb_X3_takenFor _, rfl⟩, (inB 853 (by decide +kernel) (by decide +kernel)), (inB 855 (by decide +kernel) (by decide +kernel)), RX3, TX3, 4, (inB 10 (by decide +kernel) (by decide +kernel)), rfl⟩
theorem n_X3_10 : NW RX3 10 7 4 [.int (J 0), .null, .null, .null] := ⟨RX3, TX3, tyX3, rfl, inw7, tyX3_ok, by decide +kernel, (inB 658 (by decide +kernel) (by decide +kernel)), (inB 196 (by decide +kernel) (by decide +kernel)), (inB 75 (by decide +kernel) (by decide +kernel))⟩
theorem n_X3_27 : NW RX3 27 6 4 [.int (J 0), .int (J 0), .int (J 0), .int (J 0)] := ⟨RX2, TX2, tyX2, rfl, inw6, tyX2_ok, by decide +kernel, (inB 657 (by decide +kernel) (by decide +kernel)), (inB 621 (by decide +kernel) (by decide +kernel)), (inB 88 (by decide +kernel) (by decide +kernel))⟩
theorem p_X3_9 : FP RX3 7 0 (.int) := ⟨RX3, TX3, 4, tyX3, rfl, tyX3_ok, nmX3, tyX3_ok 0 (by decide), fun _ => rfl⟩
theorem ff_7_0 : FF 7 0 "<init>" := fun _ _ _ _ _ => rfl
theorem p_X3_15 : FP RX3 7 1 (.array (.object "CreditTransfer$Credit")) := ⟨RX3, TX3, 4, tyX3, rfl, tyX3_ok, nmX3, tyX3_ok 1 (by decide), fun _ => rfl⟩
theorem ff_7_1 : FF 7 1 "<init>" := fun _ _ _ _ _ => rfl
theorem p_X3_19 : FP RX3 7 2 (.array (.object "CreditTransfer$Equivalence")) := ⟨RX3, TX3, 4, tyX3, rfl, tyX3_ok, nmX3, tyX3_ok 2 (by decide), fun _ => rfl⟩
theorem ff_7_2 : FF 7 2 "<init>" := fun _ _ _ _ _ => rfl
theorem p_X3_23 : FP RX3 7 3 (.object "CreditTransfer$Program") := ⟨RX3, TX3, 4, tyX3, rfl, tyX3_ok, nmX3, tyX3_ok 3 (by decide), fun _ => rfl⟩
theorem ff_7_3 : FF 7 3 "<init>" := fun _ _ _ _ _ => rfl
theorem f_X4_15 : FL RX4 15 8 1 := ⟨RX4, TX4, 4, "CreditTransfer$Equivalence", rfl, by decide, inw8, (inB 804 (by decide +kernel) (by decide +kernel)), Or.inl rfl⟩
theorem f_X4_21 : FL RX4 21 8 3 := ⟨RX4, TX4, 4, "CreditTransfer$Equivalence", rfl, by decide, inw8, (inB 810 (by decide +kernel) (by decide +kernel)), Or.inl rfl⟩
theorem o_X4_3 : Cond.methodLink RX4 3 objectInit ∈ BIG := (inB 800 (by decide +kernel) (by decide +kernel))
theorem f_X4_9 : FL RX4 9 8 0 := ⟨RX4, TX4, 4, "CreditTransfer$Equivalence", rfl, by decide, inw8, (inB 801 (by decide +kernel) (by decide +kernel)), Or.inl rfl⟩
theorem p_X4_9 : FP RX4 8 0 (.char) := ⟨RX4, TX4, 4, tyX4, rfl, tyX4_ok, nmX4, tyX4_ok 0 (by decide), fun _ => rfl⟩
theorem ff_8_0 : FF 8 0 "<init>" := fun _ _ _ _ _ => rfl
theorem p_X4_15 : FP RX4 8 1 (.char) := ⟨RX4, TX4, 4, tyX4, rfl, tyX4_ok, nmX4, tyX4_ok 1 (by decide), fun _ => rfl⟩
theorem ff_8_1 : FF 8 1 "<init>" := fun _ _ _ _ _ => rfl
theorem f_X4_18 : FL RX4 18 8 2 := ⟨RX4, TX4, 4, "CreditTransfer$Equivalence", rfl, by decide, inw8, (inB 807 (by decide +kernel) (by decide +kernel)), Or.inl rfl⟩
theorem p_X4_18 : FP RX4 8 2 (.char) := ⟨RX4, TX4, 4, tyX4, rfl, tyX4_ok, nmX4, tyX4_ok 2 (by decide), fun _ => rfl⟩
theorem ff_8_2 : FF 8 2 "<init>" := fun _ _ _ _ _ => rfl
theorem p_X4_21 : FP RX4 8 3 (.char) := ⟨RX4, TX4, 4, tyX4, rfl, tyX4_ok, nmX4, tyX4_ok 3 (by decide), fun _ => rfl⟩
theorem ff_8_3 : FF 8 3 "<init>" := fun _ _ _ _ _ => rfl
theorem a_X5_9 : Cond.classLink RX5 9 RX3 ∈ BIG := (inB 185 (by decide +kernel) (by decide +kernel))
theorem f_X5_11 : FL RX5 11 9 0 := ⟨RX5, TX5, 2, "CreditTransfer$History", rfl, by decide, inw9, (inB 187 (by decide +kernel) (by decide +kernel)), Or.inl rfl⟩
theorem f_X5_17 : FL RX5 17 9 1 := ⟨RX5, TX5, 2, "CreditTransfer$History", rfl, by decide, inw9, (inB 188 (by decide +kernel) (by decide +kernel)), Or.inl rfl⟩
theorem o_X5_3 : Cond.methodLink RX5 3 objectInit ∈ BIG := (inB 184 (by decide +kernel) (by decide +kernel))
theorem p_X5_11 : FP RX5 9 0 (.array (.object "CreditTransfer$Desk")) := ⟨RX5, TX5, 2, tyX5, rfl, tyX5_ok, nmX5, tyX5_ok 0 (by decide), fun _ => rfl⟩
theorem ff_9_0 : FF 9 0 "<init>" := fun _ _ _ _ _ => rfl
theorem p_X5_17 : FP RX5 9 1 (.int) := ⟨RX5, TX5, 2, tyX5, rfl, tyX5_ok, nmX5, tyX5_ok 1 (by decide), fun h => absurd h (by decide)⟩
theorem ff_9_1 (nm : String) : FF 9 1 nm := fun _ _ _ h1 h2 => by
  cases h1
  exact absurd h2 (by decide)
theorem f_X6_9 : FL RX6 9 10 0 := ⟨RX6, TX6, 5, "CreditTransfer$Program", rfl, by decide, inw10, (inB 240 (by decide +kernel) (by decide +kernel)), Or.inl rfl⟩
theorem f_X6_19 : FL RX6 19 10 1 := ⟨RX6, TX6, 5, "CreditTransfer$Program", rfl, by decide, inw10, (inB 245 (by decide +kernel) (by decide +kernel)), Or.inl rfl⟩
theorem f_X6_27 : FL RX6 27 10 2 := ⟨RX6, TX6, 5, "CreditTransfer$Program", rfl, by decide, inw10, (inB 248 (by decide +kernel) (by decide +kernel)), Or.inl rfl⟩
theorem f_X6_37 : FL RX6 37 10 3 := ⟨RX6, TX6, 5, "CreditTransfer$Program", rfl, by decide, inw10, (inB 249 (by decide +kernel) (by decide +kernel)), Or.inl rfl⟩
theorem f_X6_40 : FL RX6 40 10 4 := ⟨RX6, TX6, 5, "CreditTransfer$Program", rfl, by decide, inw10, (inB 250 (by decide +kernel) (by decide +kernel)), Or.inl rfl⟩
theorem f_X6_62 : FL RX6 62 5 3 := ⟨RX1, TX1, 6, "CreditTransfer$Block", rfl, by decide, inw5, (inB 982 (by decide +kernel) (by decide +kernel)), Or.inl rfl⟩
theorem f_X6_69 : FL RX6 69 5 1 := ⟨RX1, TX1, 6, "CreditTransfer$Block", rfl, by decide, inw5, (inB 976 (by decide +kernel) (by decide +kernel)), Or.inl rfl⟩
theorem o_X6_3 : Cond.methodLink RX6 3 objectInit ∈ BIG := (inB 207 (by decide +kernel) (by decide +kernel))
theorem cb_X6_leavesOf (own : String) : CB own mX6_leavesOf 1 := ⟨inB 210 (by decide +kernel) (by decide +kernel), (inB 76 (by decide +kernel) (by decide +kernel)), by decide, by decide +kernel, by decide +kernel, by decide +kernel⟩
theorem s_X6_15 : CS RX6 15 mX6_leavesOf 1 := ⟨⟨cb_X6_leavesOf _, rfl⟩, (inB 208 (by decide +kernel) (by decide +kernel)), (inB 209 (by decide +kernel) (by decide +kernel))⟩
theorem cb_X6_rootSetOf (own : String) : CB own mX6_rootSetOf 1 := ⟨inB 221 (by decide +kernel) (by decide +kernel), (inB 76 (by decide +kernel) (by decide +kernel)), by decide, by decide +kernel, by decide +kernel, by decide +kernel⟩
theorem s_X6_23 : CS RX6 23 mX6_rootSetOf 1 := ⟨⟨cb_X6_rootSetOf _, rfl⟩, (inB 219 (by decide +kernel) (by decide +kernel)), (inB 220 (by decide +kernel) (by decide +kernel))⟩
theorem s_X6_31 : CS RX6 31 mJ9_min_7cf53 2 := ⟨⟨cb_J9_min_7cf53 _, rfl⟩, (inB 222 (by decide +kernel) (by decide +kernel)), (inB 223 (by decide +kernel) (by decide +kernel))⟩
theorem cb_X6_metBlocks (own : String) : CB own mX6_metBlocks 3 := ⟨inB 227 (by decide +kernel) (by decide +kernel), (inB 76 (by decide +kernel) (by decide +kernel)), by decide, by decide +kernel, by decide +kernel, by decide +kernel⟩
theorem s_X6_43 : CS RX6 43 mX6_metBlocks 3 := ⟨⟨cb_X6_metBlocks _, rfl⟩, (inB 225 (by decide +kernel) (by decide +kernel)), (inB 226 (by decide +kernel) (by decide +kernel))⟩
theorem s_X6_47 : CS RX6 47 mJ6_bitCount_0f7a4 1 := ⟨⟨cb_J6_bitCount_0f7a4 _, rfl⟩, (inB 234 (by decide +kernel) (by decide +kernel)), (inB 235 (by decide +kernel) (by decide +kernel))⟩
theorem cb_X6_partsIn (own : String) : CB own mX6_partsIn 2 := ⟨inB 1302 (by decide +kernel) (by decide +kernel), (inB 76 (by decide +kernel) (by decide +kernel)), by decide, by decide +kernel, by decide +kernel, by decide +kernel⟩
theorem s_X6_65 : CS RX6 65 mX6_partsIn 2 := ⟨⟨cb_X6_partsIn _, rfl⟩, (inB 1300 (by decide +kernel) (by decide +kernel)), (inB 1301 (by decide +kernel) (by decide +kernel))⟩
theorem s_X6_72 : CSN RX6 72 mX9_isInSet 2 := ⟨⟨cb_X9_isInSet _, rfl⟩, by decide +kernel, (inB 229 (by decide +kernel) (by decide +kernel))⟩
theorem cb_X6_metParts (own : String) : CB own mX6_metParts 3 := ⟨inB 233 (by decide +kernel) (by decide +kernel), (inB 76 (by decide +kernel) (by decide +kernel)), by decide, by decide +kernel, by decide +kernel, by decide +kernel⟩
theorem s_X6_76 : CS RX6 76 mX6_metParts 3 := ⟨⟨cb_X6_metParts _, rfl⟩, (inB 231 (by decide +kernel) (by decide +kernel)), (inB 232 (by decide +kernel) (by decide +kernel))⟩
theorem cb_X1_isInRange (own : String) : CB own mX1_isInRange 0 := ⟨inB 1298 (by decide +kernel) (by decide +kernel), (inB 97 (by decide +kernel) (by decide +kernel)), by decide, by decide +kernel, by decide +kernel, by decide +kernel⟩
theorem v_X6_53 : CV RX6 53 5 mX1_isInRange 0 := ⟨⟨cb_X1_isInRange _, rfl⟩, (inB 1295 (by decide +kernel) (by decide +kernel)), (inB 1296 (by decide +kernel) (by decide +kernel)), RX1, TX1, 6, (inB 1297 (by decide +kernel) (by decide +kernel)), rfl⟩
theorem v_X6_59 : CV RX6 59 5 mX1_isGroup 0 := ⟨⟨cb_X1_isGroup _, rfl⟩, (inB 211 (by decide +kernel) (by decide +kernel)), (inB 212 (by decide +kernel) (by decide +kernel)), RX1, TX1, 6, (inB 213 (by decide +kernel) (by decide +kernel)), rfl⟩
theorem p_X6_9 : FP RX6 10 0 (.array (.object "CreditTransfer$Block")) := ⟨RX6, TX6, 5, tyX6, rfl, tyX6_ok, nmX6, tyX6_ok 0 (by decide), fun _ => rfl⟩
theorem ff_10_0 : FF 10 0 "<init>" := fun _ _ _ _ _ => rfl
theorem p_X6_19 : FP RX6 10 1 (.array .int) := ⟨RX6, TX6, 5, tyX6, rfl, tyX6_ok, nmX6, tyX6_ok 1 (by decide), fun _ => rfl⟩
theorem ff_10_1 : FF 10 1 "<init>" := fun _ _ _ _ _ => rfl
theorem p_X6_27 : FP RX6 10 2 (.int) := ⟨RX6, TX6, 5, tyX6, rfl, tyX6_ok, nmX6, tyX6_ok 2 (by decide), fun _ => rfl⟩
theorem ff_10_2 : FF 10 2 "<init>" := fun _ _ _ _ _ => rfl
theorem p_X6_37 : FP RX6 10 3 (.array .int) := ⟨RX6, TX6, 5, tyX6, rfl, tyX6_ok, nmX6, tyX6_ok 3 (by decide), fun _ => rfl⟩
theorem ff_10_3 : FF 10 3 "<init>" := fun _ _ _ _ _ => rfl
theorem p_X6_40 : FP RX6 10 4 (.array .int) := ⟨RX6, TX6, 5, tyX6, rfl, tyX6_ok, nmX6, tyX6_ok 4 (by decide), fun _ => rfl⟩
theorem ff_10_4 : FF 10 4 "<init>" := fun _ _ _ _ _ => rfl
theorem a_X7_29 : Cond.classLink RX7 29 RX1 ∈ BIG := (inB 151 (by decide +kernel) (by decide +kernel))
theorem f_X7_9 : FL RX7 9 11 0 := ⟨RX7, TX7, 8, "CreditTransfer$ProgramReader", rfl, by decide, inw11, (inB 153 (by decide +kernel) (by decide +kernel)), Or.inl rfl⟩
theorem f_X7_15 : FL RX7 15 11 1 := ⟨RX7, TX7, 8, "CreditTransfer$ProgramReader", rfl, by decide, inw11, (inB 154 (by decide +kernel) (by decide +kernel)), Or.inl rfl⟩
theorem f_X7_19 : FL RX7 19 11 2 := ⟨RX7, TX7, 8, "CreditTransfer$ProgramReader", rfl, by decide, inw11, (inB 155 (by decide +kernel) (by decide +kernel)), Or.inl rfl⟩
theorem f_X7_25 : FL RX7 25 11 3 := ⟨RX7, TX7, 8, "CreditTransfer$ProgramReader", rfl, by decide, inw11, (inB 156 (by decide +kernel) (by decide +kernel)), Or.inl rfl⟩
theorem f_X7_31 : FL RX7 31 11 4 := ⟨RX7, TX7, 8, "CreditTransfer$ProgramReader", rfl, by decide, inw11, (inB 157 (by decide +kernel) (by decide +kernel)), Or.inl rfl⟩
theorem f_X7_35 : FL RX7 35 11 5 := ⟨RX7, TX7, 8, "CreditTransfer$ProgramReader", rfl, by decide, inw11, (inB 158 (by decide +kernel) (by decide +kernel)), Or.inl rfl⟩
theorem f_X7_38 : FL RX7 38 11 6 := ⟨RX7, TX7, 8, "CreditTransfer$ProgramReader", rfl, by decide, inw11, (inB 159 (by decide +kernel) (by decide +kernel)), Or.inl rfl⟩
theorem f_X7_42 : FL RX7 42 11 7 := ⟨RX7, TX7, 8, "CreditTransfer$ProgramReader", rfl, by decide, inw11, (inB 160 (by decide +kernel) (by decide +kernel)), Or.inl rfl⟩
theorem o_X7_3 : Cond.methodLink RX7 3 objectInit ∈ BIG := (inB 116 (by decide +kernel) (by decide +kernel))
theorem i_X7_24 : CI RX7 24 mJ4_init_da8c8 0 := ⟨⟨cb_J4_init_da8c8 _, rfl⟩, (inB 119 (by decide +kernel) (by decide +kernel)), (inB 120 (by decide +kernel) (by decide +kernel)), rfl, rfl⟩
theorem cb_X1_init (own : String) : CB own mX1_init 6 := ⟨inB 971 (by decide +kernel) (by decide +kernel), (inB 97 (by decide +kernel) (by decide +kernel)), by decide, by decide +kernel, by decide +kernel, by decide +kernel⟩
theorem i_X7_114 : CI RX7 114 mX1_init 6 := ⟨⟨cb_X1_init _, rfl⟩, (inB 969 (by decide +kernel) (by decide +kernel)), (inB 970 (by decide +kernel) (by decide +kernel)), rfl, rfl⟩
theorem cb_X9_isOwnLetter (own : String) : CB own mX9_isOwnLetter 1 := ⟨inB 536 (by decide +kernel) (by decide +kernel), (inB 68 (by decide +kernel) (by decide +kernel)), by decide, by decide +kernel, by decide +kernel, by decide +kernel⟩
theorem s_X7_89 : CSN RX7 89 mX9_isOwnLetter 1 := ⟨⟨cb_X9_isOwnLetter _, rfl⟩, by decide +kernel, (inB 535 (by decide +kernel) (by decide +kernel))⟩
theorem cb_X7_isDigit (own : String) : CB own mX7_isDigit 1 := ⟨inB 1283 (by decide +kernel) (by decide +kernel), (inB 69 (by decide +kernel) (by decide +kernel)), by decide, by decide +kernel, by decide +kernel, by decide +kernel⟩
theorem s_X7_108 : CS RX7 108 mX7_isDigit 1 := ⟨⟨cb_X7_isDigit _, rfl⟩, (inB 1281 (by decide +kernel) (by decide +kernel)), (inB 1282 (by decide +kernel) (by decide +kernel))⟩
theorem cb_X7_readBlocks (own : String) : CB own mX7_readBlocks 0 := ⟨inB 946 (by decide +kernel) (by decide +kernel), (inB 69 (by decide +kernel) (by decide +kernel)), by decide, by decide +kernel, by decide +kernel, by decide +kernel⟩
theorem v_X7_45 : CV RX7 45 11 mX7_readBlocks 0 := ⟨⟨cb_X7_readBlocks _, rfl⟩, (inB 943 (by decide +kernel) (by decide +kernel)), (inB 945 (by decide +kernel) (by decide +kernel)), RX7, TX7, 8, (inB 13 (by decide +kernel) (by decide +kernel)), rfl⟩
theorem cb_X7_readOpenings (own : String) : CB own mX7_readOpenings 0 := ⟨inB 950 (by decide +kernel) (by decide +kernel), (inB 69 (by decide +kernel) (by decide +kernel)), by decide, by decide +kernel, by decide +kernel, by decide +kernel⟩
theorem v_X7_49 : CV RX7 49 11 mX7_readOpenings 0 := ⟨⟨cb_X7_readOpenings _, rfl⟩, (inB 947 (by decide +kernel) (by decide +kernel)), (inB 949 (by decide +kernel) (by decide +kernel)), RX7, TX7, 8, (inB 14 (by decide +kernel) (by decide +kernel)), rfl⟩
theorem cb_X7_readLeaf (own : String) : CB own mX7_readLeaf 0 := ⟨inB 1007 (by decide +kernel) (by decide +kernel), (inB 69 (by decide +kernel) (by decide +kernel)), by decide, by decide +kernel, by decide +kernel, by decide +kernel⟩
theorem v_X7_52 : CV RX7 52 11 mX7_readLeaf 0 := ⟨⟨cb_X7_readLeaf _, rfl⟩, (inB 1004 (by decide +kernel) (by decide +kernel)), (inB 1006 (by decide +kernel) (by decide +kernel)), RX7, TX7, 8, (inB 19 (by decide +kernel) (by decide +kernel)), rfl⟩
theorem cb_X7_readClosings (own : String) : CB own mX7_readClosings 0 := ⟨inB 1287 (by decide +kernel) (by decide +kernel), (inB 69 (by decide +kernel) (by decide +kernel)), by decide, by decide +kernel, by decide +kernel, by decide +kernel⟩
theorem v_X7_55 : CV RX7 55 11 mX7_readClosings 0 := ⟨⟨cb_X7_readClosings _, rfl⟩, (inB 1284 (by decide +kernel) (by decide +kernel)), (inB 1286 (by decide +kernel) (by decide +kernel)), RX7, TX7, 8, (inB 23 (by decide +kernel) (by decide +kernel)), rfl⟩
theorem cb_X7_take (own : String) : CB own mX7_take 1 := ⟨inB 958 (by decide +kernel) (by decide +kernel), (inB 69 (by decide +kernel) (by decide +kernel)), by decide, by decide +kernel, by decide +kernel, by decide +kernel⟩
theorem v_X7_58 : CV RX7 58 11 mX7_take 1 := ⟨⟨cb_X7_take _, rfl⟩, (inB 955 (by decide +kernel) (by decide +kernel)), (inB 957 (by decide +kernel) (by decide +kernel)), RX7, TX7, 8, (inB 16 (by decide +kernel) (by decide +kernel)), rfl⟩
theorem cb_X7_sign (own : String) : CB own mX7_sign 0 := ⟨inB 954 (by decide +kernel) (by decide +kernel), (inB 69 (by decide +kernel) (by decide +kernel)), by decide, by decide +kernel, by decide +kernel, by decide +kernel⟩
theorem v_X7_62 : CV RX7 62 11 mX7_sign 0 := ⟨⟨cb_X7_sign _, rfl⟩, (inB 951 (by decide +kernel) (by decide +kernel)), (inB 953 (by decide +kernel) (by decide +kernel)), RX7, TX7, 8, (inB 15 (by decide +kernel) (by decide +kernel)), rfl⟩
theorem cb_X7_addBlock (own : String) : CB own mX7_addBlock 4 := ⟨inB 963 (by decide +kernel) (by decide +kernel), (inB 69 (by decide +kernel) (by decide +kernel)), by decide, by decide +kernel, by decide +kernel, by decide +kernel⟩
theorem v_X7_68 : CV RX7 68 11 mX7_addBlock 4 := ⟨⟨cb_X7_addBlock _, rfl⟩, (inB 960 (by decide +kernel) (by decide +kernel)), (inB 962 (by decide +kernel) (by decide +kernel)), RX7, TX7, 8, (inB 17 (by decide +kernel) (by decide +kernel)), rfl⟩
theorem cb_X7_readLetters (own : String) : CB own mX7_readLetters 0 := ⟨inB 1011 (by decide +kernel) (by decide +kernel), (inB 69 (by decide +kernel) (by decide +kernel)), by decide, by decide +kernel, by decide +kernel, by decide +kernel⟩
theorem v_X7_72 : CV RX7 72 11 mX7_readLetters 0 := ⟨⟨cb_X7_readLetters _, rfl⟩, (inB 1008 (by decide +kernel) (by decide +kernel)), (inB 1010 (by decide +kernel) (by decide +kernel)), RX7, TX7, 8, (inB 20 (by decide +kernel) (by decide +kernel)), rfl⟩
theorem v_X7_76 : CV RX7 76 0 mJ0_isEmpty_aae02 0 := ⟨⟨cb_J0_isEmpty_aae02 _, rfl⟩, (inB 1276 (by decide +kernel) (by decide +kernel)), (inB 216 (by decide +kernel) (by decide +kernel)), RJ0, TJ0, 4, (inB 217 (by decide +kernel) (by decide +kernel)), rfl⟩
theorem cb_X7_readNumber (own : String) : CB own mX7_readNumber 0 := ⟨inB 1280 (by decide +kernel) (by decide +kernel), (inB 69 (by decide +kernel) (by decide +kernel)), by decide, by decide +kernel, by decide +kernel, by decide +kernel⟩
theorem v_X7_81 : CV RX7 81 11 mX7_readNumber 0 := ⟨⟨cb_X7_readNumber _, rfl⟩, (inB 1277 (by decide +kernel) (by decide +kernel)), (inB 1279 (by decide +kernel) (by decide +kernel)), RX7, TX7, 8, (inB 22 (by decide +kernel) (by decide +kernel)), rfl⟩
theorem cb_J4_setLength_d00df (own : String) : CB own mJ4_setLength_d00df 1 := ⟨inB 1015 (by decide +kernel) (by decide +kernel), (inB 71 (by decide +kernel) (by decide +kernel)), by decide, by decide +kernel, by decide +kernel, by decide +kernel⟩
theorem v_X7_85 : CV RX7 85 1 mJ4_setLength_d00df 1 := ⟨⟨cb_J4_setLength_d00df _, rfl⟩, (inB 1012 (by decide +kernel) (by decide +kernel)), (inB 1013 (by decide +kernel) (by decide +kernel)), RJ4, TJ4, 4, (inB 1014 (by decide +kernel) (by decide +kernel)), rfl⟩
theorem cb_X7_isTaken (own : String) : CB own mX7_isTaken 1 := ⟨inB 1241 (by decide +kernel) (by decide +kernel), (inB 69 (by decide +kernel) (by decide +kernel)), by decide, by decide +kernel, by decide +kernel, by decide +kernel⟩
theorem v_X7_92 : CV RX7 92 11 mX7_isTaken 1 := ⟨⟨cb_X7_isTaken _, rfl⟩, (inB 1238 (by decide +kernel) (by decide +kernel)), (inB 1240 (by decide +kernel) (by decide +kernel)), RX7, TX7, 8, (inB 21 (by decide +kernel) (by decide +kernel)), rfl⟩
theorem cb_J4_append_cf468 (own : String) : CB own mJ4_append_cf468 1 := ⟨inB 1261 (by decide +kernel) (by decide +kernel), (inB 71 (by decide +kernel) (by decide +kernel)), by decide, by decide +kernel, by decide +kernel, by decide +kernel⟩
theorem v_X7_95 : CV RX7 95 1 mJ4_append_cf468 1 := ⟨⟨cb_J4_append_cf468 _, rfl⟩, (inB 1258 (by decide +kernel) (by decide +kernel)), (inB 1259 (by decide +kernel) (by decide +kernel)), RJ4, TJ4, 4, (inB 1260 (by decide +kernel) (by decide +kernel)), rfl⟩
theorem v_X7_99 : CV RX7 99 1 mJ4_toString_0e30d 0 := ⟨⟨cb_J4_toString_0e30d _, rfl⟩, (inB 1275 (by decide +kernel) (by decide +kernel)), (inB 1141 (by decide +kernel) (by decide +kernel)), RJ4, TJ4, 4, (inB 1142 (by decide +kernel) (by decide +kernel)), rfl⟩
theorem cb_J4_length_8abf5 (own : String) : CB own mJ4_length_8abf5 0 := ⟨inB 1162 (by decide +kernel) (by decide +kernel), (inB 71 (by decide +kernel) (by decide +kernel)), by decide, by decide +kernel, by decide +kernel, by decide +kernel⟩
theorem v_X7_102 : CV RX7 102 1 mJ4_length_8abf5 0 := ⟨⟨cb_J4_length_8abf5 _, rfl⟩, (inB 1242 (by decide +kernel) (by decide +kernel)), (inB 1161 (by decide +kernel) (by decide +kernel)), RJ4, TJ4, 4, (inB 1977 (by decide +kernel) (by decide +kernel)), rfl⟩
theorem cb_J4_charAt_5068e (own : String) : CB own mJ4_charAt_5068e 1 := ⟨inB 1246 (by decide +kernel) (by decide +kernel), (inB 71 (by decide +kernel) (by decide +kernel)), by decide, by decide +kernel, by decide +kernel, by decide +kernel⟩
theorem v_X7_104 : CV RX7 104 1 mJ4_charAt_5068e 1 := ⟨⟨cb_J4_charAt_5068e _, rfl⟩, (inB 1243 (by decide +kernel) (by decide +kernel)), (inB 1244 (by decide +kernel) (by decide +kernel)), RJ4, TJ4, 4, (inB 1245 (by decide +kernel) (by decide +kernel)), rfl⟩
theorem cb_X7_innermostGroup (own : String) : CB own mX7_innermostGroup 0 := ⟨inB 968 (by decide +kernel) (by decide +kernel), (inB 69 (by decide +kernel) (by decide +kernel)), by decide, by decide +kernel, by decide +kernel, by decide +kernel⟩
theorem v_X7_111 : CV RX7 111 11 mX7_innermostGroup 0 := ⟨⟨cb_X7_innermostGroup _, rfl⟩, (inB 965 (by decide +kernel) (by decide +kernel)), (inB 967 (by decide +kernel) (by decide +kernel)), RX7, TX7, 8, (inB 18 (by decide +kernel) (by decide +kernel)), rfl⟩
theorem n_X7_22 : NW RX7 22 1 4 [.null, .int (J 0), .int (J 0), .int (J 0)] := ⟨RJ4, TJ4, tyJ4, rfl, inw1, tyJ4_ok, by decide +kernel, (inB 117 (by decide +kernel) (by decide +kernel)), (inB 118 (by decide +kernel) (by decide +kernel)), (inB 71 (by decide +kernel) (by decide +kernel))⟩
theorem n_X7_29 : NW RX7 29 5 6 [.null, .int (J 0), .int (J 0), .int (J 0), .int (J 0), .int (J 0)] := ⟨RX1, TX1, tyX1, rfl, inw5, tyX1_ok, by decide +kernel, (inB 151 (by decide +kernel) (by decide +kernel)), (inB 964 (by decide +kernel) (by decide +kernel)), (inB 97 (by decide +kernel) (by decide +kernel))⟩
theorem p_X7_9 : FP RX7 11 0 (.array .char) := ⟨RX7, TX7, 8, tyX7, rfl, tyX7_ok, nmX7, tyX7_ok 0 (by decide), fun _ => rfl⟩
theorem ff_11_0 : FF 11 0 "<init>" := fun _ _ _ _ _ => rfl
theorem p_X7_15 : FP RX7 11 1 (.int) := ⟨RX7, TX7, 8, tyX7, rfl, tyX7_ok, nmX7, tyX7_ok 1 (by decide), fun h => absurd h (by decide)⟩
theorem ff_11_1 (nm : String) : FF 11 1 nm := fun _ _ _ h1 h2 => by
  cases h1
  exact absurd h2 (by decide)
theorem p_X7_19 : FP RX7 11 2 (.int) := ⟨RX7, TX7, 8, tyX7, rfl, tyX7_ok, nmX7, tyX7_ok 2 (by decide), fun h => absurd h (by decide)⟩
theorem ff_11_2 (nm : String) : FF 11 2 nm := fun _ _ _ h1 h2 => by
  cases h1
  exact absurd h2 (by decide)
theorem p_X7_25 : FP RX7 11 3 (.object "java/lang/StringBuilder") := ⟨RX7, TX7, 8, tyX7, rfl, tyX7_ok, nmX7, tyX7_ok 3 (by decide), fun _ => rfl⟩
theorem ff_11_3 : FF 11 3 "<init>" := fun _ _ _ _ _ => rfl
theorem p_X7_31 : FP RX7 11 4 (.array (.object "CreditTransfer$Block")) := ⟨RX7, TX7, 8, tyX7, rfl, tyX7_ok, nmX7, tyX7_ok 4 (by decide), fun _ => rfl⟩
theorem ff_11_4 : FF 11 4 "<init>" := fun _ _ _ _ _ => rfl
theorem p_X7_35 : FP RX7 11 5 (.int) := ⟨RX7, TX7, 8, tyX7, rfl, tyX7_ok, nmX7, tyX7_ok 5 (by decide), fun h => absurd h (by decide)⟩
theorem ff_11_5 (nm : String) : FF 11 5 nm := fun _ _ _ h1 h2 => by
  cases h1
  exact absurd h2 (by decide)
theorem p_X7_38 : FP RX7 11 6 (.array .int) := ⟨RX7, TX7, 8, tyX7, rfl, tyX7_ok, nmX7, tyX7_ok 6 (by decide), fun _ => rfl⟩
theorem ff_11_6 : FF 11 6 "<init>" := fun _ _ _ _ _ => rfl
theorem p_X7_42 : FP RX7 11 7 (.int) := ⟨RX7, TX7, 8, tyX7, rfl, tyX7_ok, nmX7, tyX7_ok 7 (by decide), fun h => absurd h (by decide)⟩
theorem ff_11_7 (nm : String) : FF 11 7 nm := fun _ _ _ h1 h2 => by
  cases h1
  exact absurd h2 (by decide)
theorem f_X8_11 : FL RX8 11 12 0 := ⟨RX8, TX8, 3, "CreditTransfer$Trace", rfl, by decide, inw12, (inB 332 (by decide +kernel) (by decide +kernel)), Or.inl rfl⟩
theorem f_X8_15 : FL RX8 15 12 1 := ⟨RX8, TX8, 3, "CreditTransfer$Trace", rfl, by decide, inw12, (inB 334 (by decide +kernel) (by decide +kernel)), Or.inl rfl⟩
theorem f_X8_18 : FL RX8 18 12 2 := ⟨RX8, TX8, 3, "CreditTransfer$Trace", rfl, by decide, inw12, (inB 336 (by decide +kernel) (by decide +kernel)), Or.inl rfl⟩
theorem f_X8_22 : FL RX8 22 7 3 := ⟨RX3, TX3, 4, "CreditTransfer$Desk", rfl, by decide, inw7, (inB 277 (by decide +kernel) (by decide +kernel)), Or.inl rfl⟩
theorem f_X8_28 : FL RX8 28 10 0 := ⟨RX6, TX6, 5, "CreditTransfer$Program", rfl, by decide, inw10, (inB 241 (by decide +kernel) (by decide +kernel)), Or.inl rfl⟩
theorem f_X8_66 : FL RX8 66 5 3 := ⟨RX1, TX1, 6, "CreditTransfer$Block", rfl, by decide, inw5, (inB 983 (by decide +kernel) (by decide +kernel)), Or.inl rfl⟩
theorem f_X8_73 : FL RX8 73 7 1 := ⟨RX3, TX3, 4, "CreditTransfer$Desk", rfl, by decide, inw7, (inB 273 (by decide +kernel) (by decide +kernel)), Or.inl rfl⟩
theorem f_X8_84 : FL RX8 84 7 0 := ⟨RX3, TX3, 4, "CreditTransfer$Desk", rfl, by decide, inw7, (inB 267 (by decide +kernel) (by decide +kernel)), Or.inl rfl⟩
theorem f_X8_91 : FL RX8 91 6 2 := ⟨RX2, TX2, 4, "CreditTransfer$Credit", rfl, by decide, inw6, (inB 636 (by decide +kernel) (by decide +kernel)), Or.inl rfl⟩
theorem f_X8_96 : FL RX8 96 5 5 := ⟨RX1, TX1, 6, "CreditTransfer$Block", rfl, by decide, inw5, (inB 989 (by decide +kernel) (by decide +kernel)), Or.inl rfl⟩
theorem f_X8_103 : FL RX8 103 5 1 := ⟨RX1, TX1, 6, "CreditTransfer$Block", rfl, by decide, inw5, (inB 977 (by decide +kernel) (by decide +kernel)), Or.inl rfl⟩
theorem o_X8_3 : Cond.methodLink RX8 3 objectInit ∈ BIG := (inB 331 (by decide +kernel) (by decide +kernel))
theorem s_X8_54 : CS RX8 54 mX6_metParts 3 := ⟨⟨cb_X6_metParts _, rfl⟩, (inB 1459 (by decide +kernel) (by decide +kernel)), (inB 232 (by decide +kernel) (by decide +kernel))⟩
theorem cb_X8_firstUnmetPart (own : String) : CB own mX8_firstUnmetPart 3 := ⟨inB 1462 (by decide +kernel) (by decide +kernel), (inB 81 (by decide +kernel) (by decide +kernel)), by decide, by decide +kernel, by decide +kernel, by decide +kernel⟩
theorem s_X8_62 : CS RX8 62 mX8_firstUnmetPart 3 := ⟨⟨cb_X8_firstUnmetPart _, rfl⟩, (inB 1460 (by decide +kernel) (by decide +kernel)), (inB 1461 (by decide +kernel) (by decide +kernel))⟩
theorem cb_X8_kindOf (own : String) : CB own mX8_kindOf 4 := ⟨inB 1456 (by decide +kernel) (by decide +kernel), (inB 81 (by decide +kernel) (by decide +kernel)), by decide, by decide +kernel, by decide +kernel, by decide +kernel⟩
theorem s_X8_87 : CS RX8 87 mX8_kindOf 4 := ⟨⟨cb_X8_kindOf _, rfl⟩, (inB 1454 (by decide +kernel) (by decide +kernel)), (inB 1455 (by decide +kernel) (by decide +kernel))⟩
theorem cb_X0_meets (own : String) : CB own mX0_meets 1 := ⟨inB 1373 (by decide +kernel) (by decide +kernel), (inB 80 (by decide +kernel) (by decide +kernel)), by decide, by decide +kernel, by decide +kernel, by decide +kernel⟩
theorem v_X8_34 : CV RX8 34 4 mX0_meets 1 := ⟨⟨cb_X0_meets _, rfl⟩, (inB 1441 (by decide +kernel) (by decide +kernel)), (inB 1371 (by decide +kernel) (by decide +kernel)), RX0, TX0, 10, (inB 1372 (by decide +kernel) (by decide +kernel)), rfl⟩
theorem v_X8_40 : CV RX8 40 5 mX1_isGroup 0 := ⟨⟨cb_X1_isGroup _, rfl⟩, (inB 1442 (by decide +kernel) (by decide +kernel)), (inB 212 (by decide +kernel) (by decide +kernel)), RX1, TX1, 6, (inB 213 (by decide +kernel) (by decide +kernel)), rfl⟩
theorem cb_X8_addLeaf (own : String) : CB own mX8_addLeaf 3 := ⟨inB 1446 (by decide +kernel) (by decide +kernel), (inB 81 (by decide +kernel) (by decide +kernel)), by decide, by decide +kernel, by decide +kernel, by decide +kernel⟩
theorem v_X8_46 : CV RX8 46 12 mX8_addLeaf 3 := ⟨⟨cb_X8_addLeaf _, rfl⟩, (inB 1443 (by decide +kernel) (by decide +kernel)), (inB 1445 (by decide +kernel) (by decide +kernel)), RX8, TX8, 3, (inB 24 (by decide +kernel) (by decide +kernel)), rfl⟩
theorem v_X8_50 : CV RX8 50 4 mX0_metSet 0 := ⟨⟨cb_X0_metSet _, rfl⟩, (inB 1458 (by decide +kernel) (by decide +kernel)), (inB 1375 (by decide +kernel) (by decide +kernel)), RX0, TX0, 10, (inB 1376 (by decide +kernel) (by decide +kernel)), rfl⟩
theorem cb_X8_add (own : String) : CB own mX8_add 2 := ⟨inB 1451 (by decide +kernel) (by decide +kernel), (inB 81 (by decide +kernel) (by decide +kernel)), by decide, by decide +kernel, by decide +kernel, by decide +kernel⟩
theorem v_X8_58 : CV RX8 58 12 mX8_add 2 := ⟨⟨cb_X8_add _, rfl⟩, (inB 1448 (by decide +kernel) (by decide +kernel)), (inB 1450 (by decide +kernel) (by decide +kernel)), RX8, TX8, 3, (inB 25 (by decide +kernel) (by decide +kernel)), rfl⟩
theorem cb_X0_pointsWithin (own : String) : CB own mX0_pointsWithin 1 := ⟨inB 1392 (by decide +kernel) (by decide +kernel), (inB 80 (by decide +kernel) (by decide +kernel)), by decide, by decide +kernel, by decide +kernel, by decide +kernel⟩
theorem v_X8_69 : CV RX8 69 4 mX0_pointsWithin 1 := ⟨⟨cb_X0_pointsWithin _, rfl⟩, (inB 1447 (by decide +kernel) (by decide +kernel)), (inB 1390 (by decide +kernel) (by decide +kernel)), RX0, TX0, 10, (inB 1391 (by decide +kernel) (by decide +kernel)), rfl⟩
theorem v_X8_77 : CV RX8 77 5 mX1_names 1 := ⟨⟨cb_X1_names _, rfl⟩, (inB 1452 (by decide +kernel) (by decide +kernel)), (inB 403 (by decide +kernel) (by decide +kernel)), RX1, TX1, 6, (inB 404 (by decide +kernel) (by decide +kernel)), rfl⟩
theorem v_X8_81 : CV RX8 81 4 mX0_takerOf 1 := ⟨⟨cb_X0_takerOf _, rfl⟩, (inB 1453 (by decide +kernel) (by decide +kernel)), (inB 738 (by decide +kernel) (by decide +kernel)), RX0, TX0, 10, (inB 739 (by decide +kernel) (by decide +kernel)), rfl⟩
theorem v_X8_99 : CV RX8 99 5 mX1_lastYearFor 1 := ⟨⟨cb_X1_lastYearFor _, rfl⟩, (inB 1457 (by decide +kernel) (by decide +kernel)), (inB 490 (by decide +kernel) (by decide +kernel)), RX1, TX1, 6, (inB 491 (by decide +kernel) (by decide +kernel)), rfl⟩
theorem p_X8_11 : FP RX8 12 0 (.array .int) := ⟨RX8, TX8, 3, tyX8, rfl, tyX8_ok, nmX8, tyX8_ok 0 (by decide), fun _ => rfl⟩
theorem ff_12_0 : FF 12 0 "<init>" := fun _ _ _ _ _ => rfl
theorem p_X8_15 : FP RX8 12 1 (.array .int) := ⟨RX8, TX8, 3, tyX8, rfl, tyX8_ok, nmX8, tyX8_ok 1 (by decide), fun _ => rfl⟩
theorem ff_12_1 : FF 12 1 "<init>" := fun _ _ _ _ _ => rfl
theorem p_X8_18 : FP RX8 12 2 (.int) := ⟨RX8, TX8, 3, tyX8, rfl, tyX8_ok, nmX8, tyX8_ok 2 (by decide), fun h => absurd h (by decide)⟩
theorem ff_12_2 (nm : String) : FF 12 2 nm := fun _ _ _ h1 h2 => by
  cases h1
  exact absurd h2 (by decide)
theorem a_X9_25 : Cond.classLink RX9 25 RX2 ∈ BIG := (inB 197 (by decide +kernel) (by decide +kernel))
theorem a_X9_27 : Cond.classLink RX9 27 RX4 ∈ BIG := (inB 199 (by decide +kernel) (by decide +kernel))
theorem a_X9_31 : Cond.classLink RX9 31 RX1 ∈ BIG := (inB 203 (by decide +kernel) (by decide +kernel))
theorem f_X9_10 : FL RX9 10 13 0 := ⟨RX9, TX9, 9, "CreditTransfer", rfl, by decide, inw13, (inB 345 (by decide +kernel) (by decide +kernel)), Or.inl rfl⟩
theorem f_X9_19 : FL RX9 19 13 1 := ⟨RX9, TX9, 9, "CreditTransfer", rfl, by decide, inw13, (inB 346 (by decide +kernel) (by decide +kernel)), Or.inl rfl⟩
theorem f_X9_39 : FL RX9 39 13 5 := ⟨RX9, TX9, 9, "CreditTransfer", rfl, by decide, inw13, (inB 350 (by decide +kernel) (by decide +kernel)), Or.inl rfl⟩
theorem f_X9_48 : FL RX9 48 13 2 := ⟨RX9, TX9, 9, "CreditTransfer", rfl, by decide, inw13, (inB 347 (by decide +kernel) (by decide +kernel)), Or.inl rfl⟩
theorem f_X9_52 : FL RX9 52 13 3 := ⟨RX9, TX9, 9, "CreditTransfer", rfl, by decide, inw13, (inB 348 (by decide +kernel) (by decide +kernel)), Or.inl rfl⟩
theorem f_X9_58 : FL RX9 58 13 4 := ⟨RX9, TX9, 9, "CreditTransfer", rfl, by decide, inw13, (inB 349 (by decide +kernel) (by decide +kernel)), Or.inl rfl⟩
theorem f_X9_62 : FL RX9 62 13 6 := ⟨RX9, TX9, 9, "CreditTransfer", rfl, by decide, inw13, (inB 351 (by decide +kernel) (by decide +kernel)), Or.inl rfl⟩
theorem f_X9_65 : FL RX9 65 13 7 := ⟨RX9, TX9, 9, "CreditTransfer", rfl, by decide, inw13, (inB 352 (by decide +kernel) (by decide +kernel)), Or.inl rfl⟩
theorem f_X9_69 : FL RX9 69 13 8 := ⟨RX9, TX9, 9, "CreditTransfer", rfl, by decide, inw13, (inB 353 (by decide +kernel) (by decide +kernel)), Or.inl rfl⟩
theorem f_X9_79 : FL RX9 79 7 1 := ⟨RX3, TX3, 4, "CreditTransfer$Desk", rfl, by decide, inw7, (inB 272 (by decide +kernel) (by decide +kernel)), Or.inl rfl⟩
theorem f_X9_107 : FL RX9 107 6 1 := ⟨RX2, TX2, 4, "CreditTransfer$Credit", rfl, by decide, inw6, (inB 631 (by decide +kernel) (by decide +kernel)), Or.inl rfl⟩
theorem f_X9_110 : FL RX9 110 6 2 := ⟨RX2, TX2, 4, "CreditTransfer$Credit", rfl, by decide, inw6, (inB 635 (by decide +kernel) (by decide +kernel)), Or.inl rfl⟩
theorem f_X9_113 : FL RX9 113 6 3 := ⟨RX2, TX2, 4, "CreditTransfer$Credit", rfl, by decide, inw6, (inB 642 (by decide +kernel) (by decide +kernel)), Or.inl rfl⟩
theorem f_X9_128 : FL RX9 128 6 0 := ⟨RX2, TX2, 4, "CreditTransfer$Credit", rfl, by decide, inw6, (inB 628 (by decide +kernel) (by decide +kernel)), Or.inl rfl⟩
theorem f_X9_135 : FL RX9 135 7 3 := ⟨RX3, TX3, 4, "CreditTransfer$Desk", rfl, by decide, inw7, (inB 279 (by decide +kernel) (by decide +kernel)), Or.inl rfl⟩
theorem f_X9_139 : FL RX9 139 10 0 := ⟨RX6, TX6, 5, "CreditTransfer$Program", rfl, by decide, inw10, (inB 242 (by decide +kernel) (by decide +kernel)), Or.inl rfl⟩
theorem f_X9_166 : FL RX9 166 7 2 := ⟨RX3, TX3, 4, "CreditTransfer$Desk", rfl, by decide, inw7, (inB 275 (by decide +kernel) (by decide +kernel)), Or.inl rfl⟩
theorem f_X9_180 : FL RX9 180 8 0 := ⟨RX4, TX4, 4, "CreditTransfer$Equivalence", rfl, by decide, inw8, (inB 802 (by decide +kernel) (by decide +kernel)), Or.inl rfl⟩
theorem f_X9_183 : FL RX9 183 8 1 := ⟨RX4, TX4, 4, "CreditTransfer$Equivalence", rfl, by decide, inw8, (inB 805 (by decide +kernel) (by decide +kernel)), Or.inl rfl⟩
theorem f_X9_186 : FL RX9 186 8 2 := ⟨RX4, TX4, 4, "CreditTransfer$Equivalence", rfl, by decide, inw8, (inB 808 (by decide +kernel) (by decide +kernel)), Or.inl rfl⟩
theorem f_X9_189 : FL RX9 189 8 3 := ⟨RX4, TX4, 4, "CreditTransfer$Equivalence", rfl, by decide, inw8, (inB 811 (by decide +kernel) (by decide +kernel)), Or.inl rfl⟩
theorem f_X9_230 : FL RX9 230 5 1 := ⟨RX1, TX1, 6, "CreditTransfer$Block", rfl, by decide, inw5, (inB 978 (by decide +kernel) (by decide +kernel)), Or.inl rfl⟩
theorem f_X9_236 : FL RX9 236 5 3 := ⟨RX1, TX1, 6, "CreditTransfer$Block", rfl, by decide, inw5, (inB 985 (by decide +kernel) (by decide +kernel)), Or.inl rfl⟩
theorem f_X9_239 : FL RX9 239 5 4 := ⟨RX1, TX1, 6, "CreditTransfer$Block", rfl, by decide, inw5, (inB 987 (by decide +kernel) (by decide +kernel)), Or.inl rfl⟩
theorem f_X9_242 : FL RX9 242 5 5 := ⟨RX1, TX1, 6, "CreditTransfer$Block", rfl, by decide, inw5, (inB 990 (by decide +kernel) (by decide +kernel)), Or.inl rfl⟩
theorem f_X9_245 : FL RX9 245 5 0 := ⟨RX1, TX1, 6, "CreditTransfer$Block", rfl, by decide, inw5, (inB 974 (by decide +kernel) (by decide +kernel)), Or.inl rfl⟩
theorem f_X9_254 : FL RX9 254 5 2 := ⟨RX1, TX1, 6, "CreditTransfer$Block", rfl, by decide, inw5, (inB 980 (by decide +kernel) (by decide +kernel)), Or.inl rfl⟩
theorem f_X9_264 : FL RX9 264 7 0 := ⟨RX3, TX3, 4, "CreditTransfer$Desk", rfl, by decide, inw7, (inB 269 (by decide +kernel) (by decide +kernel)), Or.inl rfl⟩
theorem f_X9_298 : FL RX9 298 12 2 := ⟨RX8, TX8, 3, "CreditTransfer$Trace", rfl, by decide, inw12, (inB 337 (by decide +kernel) (by decide +kernel)), Or.inl rfl⟩
theorem f_X9_301 : FL RX9 301 12 0 := ⟨RX8, TX8, 3, "CreditTransfer$Trace", rfl, by decide, inw12, (inB 333 (by decide +kernel) (by decide +kernel)), Or.inl rfl⟩
theorem f_X9_305 : FL RX9 305 12 1 := ⟨RX8, TX8, 3, "CreditTransfer$Trace", rfl, by decide, inw12, (inB 335 (by decide +kernel) (by decide +kernel)), Or.inl rfl⟩
theorem f_X9_308 : FL RX9 308 10 1 := ⟨RX6, TX6, 5, "CreditTransfer$Program", rfl, by decide, inw10, (inB 247 (by decide +kernel) (by decide +kernel)), Or.inl rfl⟩
theorem f_X9_333 : FL RX9 333 9 1 := ⟨RX5, TX5, 2, "CreditTransfer$History", rfl, by decide, inw9, (inB 189 (by decide +kernel) (by decide +kernel)), Or.inl rfl⟩
theorem o_X9_1 : Cond.methodLink RX9 1 objectInit ∈ BIG := (inB 108 (by decide +kernel) (by decide +kernel))
theorem cb_X7_init (own : String) : CB own mX7_init 0 := ⟨inB 115 (by decide +kernel) (by decide +kernel), (inB 69 (by decide +kernel) (by decide +kernel)), by decide, by decide +kernel, by decide +kernel, by decide +kernel⟩
theorem i_X9_9 : CIN RX9 9 mX7_init 0 := ⟨⟨cb_X7_init _, rfl⟩, by decide +kernel, (inB 114 (by decide +kernel) (by decide +kernel)), rfl, rfl⟩
theorem cb_X5_init (own : String) : CB own mX5_init 0 := ⟨inB 183 (by decide +kernel) (by decide +kernel), (inB 74 (by decide +kernel) (by decide +kernel)), by decide, by decide +kernel, by decide +kernel, by decide +kernel⟩
theorem i_X9_18 : CIN RX9 18 mX5_init 0 := ⟨⟨cb_X5_init _, rfl⟩, by decide +kernel, (inB 182 (by decide +kernel) (by decide +kernel)), rfl, rfl⟩
theorem cb_X6_init (own : String) : CB own mX6_init 1 := ⟨inB 206 (by decide +kernel) (by decide +kernel), (inB 76 (by decide +kernel) (by decide +kernel)), by decide, by decide +kernel, by decide +kernel, by decide +kernel⟩
theorem i_X9_33 : CI RX9 33 mX6_init 1 := ⟨⟨cb_X6_init _, rfl⟩, (inB 204 (by decide +kernel) (by decide +kernel)), (inB 205 (by decide +kernel) (by decide +kernel)), rfl, rfl⟩
theorem i_X9_36 : CI RX9 36 mX3_init 4 := ⟨⟨cb_X3_init _, rfl⟩, (inB 262 (by decide +kernel) (by decide +kernel)), (inB 263 (by decide +kernel) (by decide +kernel)), rfl, rfl⟩
theorem cb_X0_init (own : String) : CB own mX0_init 1 := ⟨inB 293 (by decide +kernel) (by decide +kernel), (inB 80 (by decide +kernel) (by decide +kernel)), by decide, by decide +kernel, by decide +kernel, by decide +kernel⟩
theorem i_X9_45 : CI RX9 45 mX0_init 1 := ⟨⟨cb_X0_init _, rfl⟩, (inB 291 (by decide +kernel) (by decide +kernel)), (inB 292 (by decide +kernel) (by decide +kernel)), rfl, rfl⟩
theorem cb_X8_init (own : String) : CB own mX8_init 0 := ⟨inB 330 (by decide +kernel) (by decide +kernel), (inB 81 (by decide +kernel) (by decide +kernel)), by decide, by decide +kernel, by decide +kernel, by decide +kernel⟩
theorem i_X9_57 : CIN RX9 57 mX8_init 0 := ⟨⟨cb_X8_init _, rfl⟩, by decide +kernel, (inB 329 (by decide +kernel) (by decide +kernel)), rfl, rfl⟩
theorem i_X9_86 : CI RX9 86 mX2_init 4 := ⟨⟨cb_X2_init _, rfl⟩, (inB 622 (by decide +kernel) (by decide +kernel)), (inB 623 (by decide +kernel) (by decide +kernel)), rfl, rfl⟩
theorem cb_X4_init (own : String) : CB own mX4_init 4 := ⟨inB 799 (by decide +kernel) (by decide +kernel), (inB 95 (by decide +kernel) (by decide +kernel)), by decide, by decide +kernel, by decide +kernel, by decide +kernel⟩
theorem i_X9_170 : CI RX9 170 mX4_init 4 := ⟨⟨cb_X4_init _, rfl⟩, (inB 797 (by decide +kernel) (by decide +kernel)), (inB 798 (by decide +kernel) (by decide +kernel)), rfl, rfl⟩
theorem s_X9_153 : CS RX9 153 mJ9_min_7cf53 2 := ⟨⟨cb_J9_min_7cf53 _, rfl⟩, (inB 782 (by decide +kernel) (by decide +kernel)), (inB 223 (by decide +kernel) (by decide +kernel))⟩
theorem cb_X9_areForeignLetters (own : String) : CB own mX9_areForeignLetters 2 := ⟨inB 792 (by decide +kernel) (by decide +kernel), (inB 68 (by decide +kernel) (by decide +kernel)), by decide, by decide +kernel, by decide +kernel, by decide +kernel⟩
theorem s_X9_159 : CS RX9 159 mX9_areForeignLetters 2 := ⟨⟨cb_X9_areForeignLetters _, rfl⟩, (inB 790 (by decide +kernel) (by decide +kernel)), (inB 791 (by decide +kernel) (by decide +kernel))⟩
theorem cb_X9_areOwnLetters (own : String) : CB own mX9_areOwnLetters 2 := ⟨inB 795 (by decide +kernel) (by decide +kernel), (inB 68 (by decide +kernel) (by decide +kernel)), by decide, by decide +kernel, by decide +kernel, by decide +kernel⟩
theorem s_X9_163 : CS RX9 163 mX9_areOwnLetters 2 := ⟨⟨cb_X9_areOwnLetters _, rfl⟩, (inB 793 (by decide +kernel) (by decide +kernel)), (inB 794 (by decide +kernel) (by decide +kernel))⟩
theorem cb_X6_reasonAgainst (own : String) : CB own mX6_reasonAgainst 1 := ⟨inB 1294 (by decide +kernel) (by decide +kernel), (inB 76 (by decide +kernel) (by decide +kernel)), by decide, by decide +kernel, by decide +kernel, by decide +kernel⟩
theorem s_X9_223 : CS RX9 223 mX6_reasonAgainst 1 := ⟨⟨cb_X6_reasonAgainst _, rfl⟩, (inB 1292 (by decide +kernel) (by decide +kernel)), (inB 1293 (by decide +kernel) (by decide +kernel))⟩
theorem s_X9_275 : CS RX9 275 mJ9_max_7cf53 2 := ⟨⟨cb_J9_max_7cf53 _, rfl⟩, (inB 1405 (by decide +kernel) (by decide +kernel)), (inB 434 (by decide +kernel) (by decide +kernel))⟩
theorem cb_X9_isForeignLetter (own : String) : CB own mX9_isForeignLetter 1 := ⟨inB 533 (by decide +kernel) (by decide +kernel), (inB 68 (by decide +kernel) (by decide +kernel)), by decide, by decide +kernel, by decide +kernel, by decide +kernel⟩
theorem s_X9_340 : CS RX9 340 mX9_isForeignLetter 1 := ⟨⟨cb_X9_isForeignLetter _, rfl⟩, (inB 531 (by decide +kernel) (by decide +kernel)), (inB 532 (by decide +kernel) (by decide +kernel))⟩
theorem s_X9_344 : CS RX9 344 mX9_isOwnLetter 1 := ⟨⟨cb_X9_isOwnLetter _, rfl⟩, (inB 534 (by decide +kernel) (by decide +kernel)), (inB 535 (by decide +kernel) (by decide +kernel))⟩
theorem cb_X9_isInRange (own : String) : CB own mX9_isInRange 4 := ⟨inB 530 (by decide +kernel) (by decide +kernel), (inB 68 (by decide +kernel) (by decide +kernel)), by decide, by decide +kernel, by decide +kernel, by decide +kernel⟩
theorem v_X9_72 : CV RX9 72 13 mX9_isInRange 4 := ⟨⟨cb_X9_isInRange _, rfl⟩, (inB 527 (by decide +kernel) (by decide +kernel)), (inB 529 (by decide +kernel) (by decide +kernel)), RX9, TX9, 9, (inB 3 (by decide +kernel) (by decide +kernel)), rfl⟩
theorem v_X9_89 : CV RX9 89 7 mX3_withCredit 1 := ⟨⟨cb_X3_withCredit _, rfl⟩, (inB 653 (by decide +kernel) (by decide +kernel)), (inB 654 (by decide +kernel) (by decide +kernel)), RX3, TX3, 4, (inB 655 (by decide +kernel) (by decide +kernel)), rfl⟩
theorem cb_X9_changeTo (own : String) : CB own mX9_changeTo 1 := ⟨inB 663 (by decide +kernel) (by decide +kernel), (inB 68 (by decide +kernel) (by decide +kernel)), by decide, by decide +kernel, by decide +kernel, by decide +kernel⟩
theorem v_X9_93 : CV RX9 93 13 mX9_changeTo 1 := ⟨⟨cb_X9_changeTo _, rfl⟩, (inB 660 (by decide +kernel) (by decide +kernel)), (inB 662 (by decide +kernel) (by decide +kernel)), RX9, TX9, 9, (inB 5 (by decide +kernel) (by decide +kernel)), rfl⟩
theorem cb_X9_hasCredit (own : String) : CB own mX9_hasCredit 1 := ⟨inB 710 (by decide +kernel) (by decide +kernel), (inB 68 (by decide +kernel) (by decide +kernel)), by decide, by decide +kernel, by decide +kernel, by decide +kernel⟩
theorem v_X9_96 : CV RX9 96 13 mX9_hasCredit 1 := ⟨⟨cb_X9_hasCredit _, rfl⟩, (inB 707 (by decide +kernel) (by decide +kernel)), (inB 709 (by decide +kernel) (by decide +kernel)), RX9, TX9, 9, (inB 6 (by decide +kernel) (by decide +kernel)), rfl⟩
theorem v_X9_103 : CV RX9 103 7 mX3_withoutCredit 1 := ⟨⟨cb_X3_withoutCredit _, rfl⟩, (inB 726 (by decide +kernel) (by decide +kernel)), (inB 727 (by decide +kernel) (by decide +kernel)), RX3, TX3, 4, (inB 728 (by decide +kernel) (by decide +kernel)), rfl⟩
theorem cb_X9_bestUse (own : String) : CB own mX9_bestUse 0 := ⟨inB 388 (by decide +kernel) (by decide +kernel), (inB 68 (by decide +kernel) (by decide +kernel)), by decide, by decide +kernel, by decide +kernel, by decide +kernel⟩
theorem v_X9_116 : CV RX9 116 13 mX9_bestUse 0 := ⟨⟨cb_X9_bestUse _, rfl⟩, (inB 385 (by decide +kernel) (by decide +kernel)), (inB 387 (by decide +kernel) (by decide +kernel)), RX9, TX9, 9, (inB 0 (by decide +kernel) (by decide +kernel)), rfl⟩
theorem v_X9_120 : CV RX9 120 4 mX0_takerOf 1 := ⟨⟨cb_X0_takerOf _, rfl⟩, (inB 737 (by decide +kernel) (by decide +kernel)), (inB 738 (by decide +kernel) (by decide +kernel)), RX0, TX0, 10, (inB 739 (by decide +kernel) (by decide +kernel)), rfl⟩
theorem cb_X3_acceptingSet (own : String) : CB own mX3_acceptingSet 1 := ⟨inB 744 (by decide +kernel) (by decide +kernel), (inB 75 (by decide +kernel) (by decide +kernel)), by decide, by decide +kernel, by decide +kernel, by decide +kernel⟩
theorem v_X9_124 : CV RX9 124 7 mX3_acceptingSet 1 := ⟨⟨cb_X3_acceptingSet _, rfl⟩, (inB 741 (by decide +kernel) (by decide +kernel)), (inB 742 (by decide +kernel) (by decide +kernel)), RX3, TX3, 4, (inB 743 (by decide +kernel) (by decide +kernel)), rfl⟩
theorem cb_X9_hasBlock (own : String) : CB own mX9_hasBlock 1 := ⟨inB 764 (by decide +kernel) (by decide +kernel), (inB 68 (by decide +kernel) (by decide +kernel)), by decide, by decide +kernel, by decide +kernel, by decide +kernel⟩
theorem v_X9_132 : CV RX9 132 13 mX9_hasBlock 1 := ⟨⟨cb_X9_hasBlock _, rfl⟩, (inB 761 (by decide +kernel) (by decide +kernel)), (inB 763 (by decide +kernel) (by decide +kernel)), RX9, TX9, 9, (inB 7 (by decide +kernel) (by decide +kernel)), rfl⟩
theorem v_X9_143 : CV RX9 143 5 mX1_isGroup 0 := ⟨⟨cb_X1_isGroup _, rfl⟩, (inB 765 (by decide +kernel) (by decide +kernel)), (inB 212 (by decide +kernel) (by decide +kernel)), RX1, TX1, 6, (inB 213 (by decide +kernel) (by decide +kernel)), rfl⟩
theorem v_X9_150 : CV RX9 150 5 mX1_lastYearFor 1 := ⟨⟨cb_X1_lastYearFor _, rfl⟩, (inB 781 (by decide +kernel) (by decide +kernel)), (inB 490 (by decide +kernel) (by decide +kernel)), RX1, TX1, 6, (inB 491 (by decide +kernel) (by decide +kernel)), rfl⟩
theorem cb_X3_withEquivalence (own : String) : CB own mX3_withEquivalence 1 := ⟨inB 825 (by decide +kernel) (by decide +kernel), (inB 75 (by decide +kernel) (by decide +kernel)), by decide, by decide +kernel, by decide +kernel, by decide +kernel⟩
theorem v_X9_173 : CV RX9 173 7 mX3_withEquivalence 1 := ⟨⟨cb_X3_withEquivalence _, rfl⟩, (inB 822 (by decide +kernel) (by decide +kernel)), (inB 823 (by decide +kernel) (by decide +kernel)), RX3, TX3, 4, (inB 824 (by decide +kernel) (by decide +kernel)), rfl⟩
theorem cb_X9_hasEquivalence (own : String) : CB own mX9_hasEquivalence 1 := ⟨inB 837 (by decide +kernel) (by decide +kernel), (inB 68 (by decide +kernel) (by decide +kernel)), by decide, by decide +kernel, by decide +kernel, by decide +kernel⟩
theorem v_X9_177 : CV RX9 177 13 mX9_hasEquivalence 1 := ⟨⟨cb_X9_hasEquivalence _, rfl⟩, (inB 834 (by decide +kernel) (by decide +kernel)), (inB 836 (by decide +kernel) (by decide +kernel)), RX9, TX9, 9, (inB 8 (by decide +kernel) (by decide +kernel)), rfl⟩
theorem cb_X3_reasonAgainst (own : String) : CB own mX3_reasonAgainst 1 := ⟨inB 848 (by decide +kernel) (by decide +kernel), (inB 75 (by decide +kernel) (by decide +kernel)), by decide, by decide +kernel, by decide +kernel, by decide +kernel⟩
theorem v_X9_192 : CV RX9 192 7 mX3_reasonAgainst 1 := ⟨⟨cb_X3_reasonAgainst _, rfl⟩, (inB 845 (by decide +kernel) (by decide +kernel)), (inB 846 (by decide +kernel) (by decide +kernel)), RX3, TX3, 4, (inB 847 (by decide +kernel) (by decide +kernel)), rfl⟩
theorem cb_X3_after (own : String) : CB own mX3_after 1 := ⟨inB 872 (by decide +kernel) (by decide +kernel), (inB 75 (by decide +kernel) (by decide +kernel)), by decide, by decide +kernel, by decide +kernel, by decide +kernel⟩
theorem v_X9_196 : CV RX9 196 7 mX3_after 1 := ⟨⟨cb_X3_after _, rfl⟩, (inB 869 (by decide +kernel) (by decide +kernel)), (inB 870 (by decide +kernel) (by decide +kernel)), RX3, TX3, 4, (inB 871 (by decide +kernel) (by decide +kernel)), rfl⟩
theorem v_X9_199 : CV RX9 199 8 mX4_comingCount 0 := ⟨⟨cb_X4_comingCount _, rfl⟩, (inB 878 (by decide +kernel) (by decide +kernel)), (inB 866 (by decide +kernel) (by decide +kernel)), RX4, TX4, 4, (inB 867 (by decide +kernel) (by decide +kernel)), rfl⟩
theorem cb_X9_rootsAfter (own : String) : CB own mX9_rootsAfter 1 := ⟨inB 890 (by decide +kernel) (by decide +kernel), (inB 68 (by decide +kernel) (by decide +kernel)), by decide, by decide +kernel, by decide +kernel, by decide +kernel⟩
theorem v_X9_203 : CV RX9 203 13 mX9_rootsAfter 1 := ⟨⟨cb_X9_rootsAfter _, rfl⟩, (inB 887 (by decide +kernel) (by decide +kernel)), (inB 889 (by decide +kernel) (by decide +kernel)), RX9, TX9, 9, (inB 11 (by decide +kernel) (by decide +kernel)), rfl⟩
theorem cb_X7_isFull (own : String) : CB own mX7_isFull 0 := ⟨inB 927 (by decide +kernel) (by decide +kernel), (inB 69 (by decide +kernel) (by decide +kernel)), by decide, by decide +kernel, by decide +kernel, by decide +kernel⟩
theorem v_X9_209 : CV RX9 209 11 mX7_isFull 0 := ⟨⟨cb_X7_isFull _, rfl⟩, (inB 924 (by decide +kernel) (by decide +kernel)), (inB 925 (by decide +kernel) (by decide +kernel)), RX7, TX7, 8, (inB 926 (by decide +kernel) (by decide +kernel)), rfl⟩
theorem cb_X7_put (own : String) : CB own mX7_put 1 := ⟨inB 931 (by decide +kernel) (by decide +kernel), (inB 69 (by decide +kernel) (by decide +kernel)), by decide, by decide +kernel, by decide +kernel, by decide +kernel⟩
theorem v_X9_212 : CV RX9 212 11 mX7_put 1 := ⟨⟨cb_X7_put _, rfl⟩, (inB 928 (by decide +kernel) (by decide +kernel)), (inB 929 (by decide +kernel) (by decide +kernel)), RX7, TX7, 8, (inB 930 (by decide +kernel) (by decide +kernel)), rfl⟩
theorem cb_X7_readText (own : String) : CB own mX7_readText 0 := ⟨inB 942 (by decide +kernel) (by decide +kernel), (inB 69 (by decide +kernel) (by decide +kernel)), by decide, by decide +kernel, by decide +kernel, by decide +kernel⟩
theorem v_X9_216 : CV RX9 216 11 mX7_readText 0 := ⟨⟨cb_X7_readText _, rfl⟩, (inB 939 (by decide +kernel) (by decide +kernel)), (inB 940 (by decide +kernel) (by decide +kernel)), RX7, TX7, 8, (inB 941 (by decide +kernel) (by decide +kernel)), rfl⟩
theorem cb_X7_blocksRead (own : String) : CB own mX7_blocksRead 0 := ⟨inB 1291 (by decide +kernel) (by decide +kernel), (inB 69 (by decide +kernel) (by decide +kernel)), by decide, by decide +kernel, by decide +kernel, by decide +kernel⟩
theorem v_X9_219 : CV RX9 219 11 mX7_blocksRead 0 := ⟨⟨cb_X7_blocksRead _, rfl⟩, (inB 1288 (by decide +kernel) (by decide +kernel)), (inB 1289 (by decide +kernel) (by decide +kernel)), RX7, TX7, 8, (inB 1290 (by decide +kernel) (by decide +kernel)), rfl⟩
theorem cb_X3_withProgram (own : String) : CB own mX3_withProgram 1 := ⟨inB 1306 (by decide +kernel) (by decide +kernel), (inB 75 (by decide +kernel) (by decide +kernel)), by decide, by decide +kernel, by decide +kernel, by decide +kernel⟩
theorem v_X9_226 : CV RX9 226 7 mX3_withProgram 1 := ⟨⟨cb_X3_withProgram _, rfl⟩, (inB 1303 (by decide +kernel) (by decide +kernel)), (inB 1304 (by decide +kernel) (by decide +kernel)), RX3, TX3, 4, (inB 1305 (by decide +kernel) (by decide +kernel)), rfl⟩
theorem cb_X6_partCount (own : String) : CB own mX6_partCount 1 := ⟨inB 1324 (by decide +kernel) (by decide +kernel), (inB 76 (by decide +kernel) (by decide +kernel)), by decide, by decide +kernel, by decide +kernel, by decide +kernel⟩
theorem v_X9_233 : CV RX9 233 10 mX6_partCount 1 := ⟨⟨cb_X6_partCount _, rfl⟩, (inB 1321 (by decide +kernel) (by decide +kernel)), (inB 1322 (by decide +kernel) (by decide +kernel)), RX6, TX6, 5, (inB 1323 (by decide +kernel) (by decide +kernel)), rfl⟩
theorem v_X9_249 : CV RX9 249 0 mJ0_length_8abf5 0 := ⟨⟨cb_J0_length_8abf5 _, rfl⟩, (inB 1325 (by decide +kernel) (by decide +kernel)), (inB 420 (by decide +kernel) (by decide +kernel)), RJ0, TJ0, 4, (inB 421 (by decide +kernel) (by decide +kernel)), rfl⟩
theorem cb_X6_partOf (own : String) : CB own mX6_partOf 2 := ⟨inB 1336 (by decide +kernel) (by decide +kernel), (inB 76 (by decide +kernel) (by decide +kernel)), by decide, by decide +kernel, by decide +kernel, by decide +kernel⟩
theorem v_X9_257 : CV RX9 257 10 mX6_partOf 2 := ⟨⟨cb_X6_partOf _, rfl⟩, (inB 1333 (by decide +kernel) (by decide +kernel)), (inB 1334 (by decide +kernel) (by decide +kernel)), RX6, TX6, 5, (inB 1335 (by decide +kernel) (by decide +kernel)), rfl⟩
theorem cb_J0_charAt_5068e (own : String) : CB own mJ0_charAt_5068e 1 := ⟨inB 1347 (by decide +kernel) (by decide +kernel), (inB 72 (by decide +kernel) (by decide +kernel)), by decide, by decide +kernel, by decide +kernel, by decide +kernel⟩
theorem v_X9_260 : CV RX9 260 0 mJ0_charAt_5068e 1 := ⟨⟨cb_J0_charAt_5068e _, rfl⟩, (inB 1344 (by decide +kernel) (by decide +kernel)), (inB 1345 (by decide +kernel) (by decide +kernel)), RJ0, TJ0, 4, (inB 1346 (by decide +kernel) (by decide +kernel)), rfl⟩
theorem v_X9_265 : CV RX9 265 5 mX1_takes 2 := ⟨⟨cb_X1_takes _, rfl⟩, (inB 1362 (by decide +kernel) (by decide +kernel)), (inB 399 (by decide +kernel) (by decide +kernel)), RX1, TX1, 6, (inB 400 (by decide +kernel) (by decide +kernel)), rfl⟩
theorem v_X9_269 : CV RX9 269 4 mX0_meets 1 := ⟨⟨cb_X0_meets _, rfl⟩, (inB 1370 (by decide +kernel) (by decide +kernel)), (inB 1371 (by decide +kernel) (by decide +kernel)), RX0, TX0, 10, (inB 1372 (by decide +kernel) (by decide +kernel)), rfl⟩
theorem v_X9_272 : CV RX9 272 4 mX0_pointsWithin 1 := ⟨⟨cb_X0_pointsWithin _, rfl⟩, (inB 1389 (by decide +kernel) (by decide +kernel)), (inB 1390 (by decide +kernel) (by decide +kernel)), RX0, TX0, 10, (inB 1391 (by decide +kernel) (by decide +kernel)), rfl⟩
theorem cb_X6_rootCount (own : String) : CB own mX6_rootCount 0 := ⟨inB 384 (by decide +kernel) (by decide +kernel), (inB 76 (by decide +kernel) (by decide +kernel)), by decide, by decide +kernel, by decide +kernel, by decide +kernel⟩
theorem v_X9_278 : CV RX9 278 10 mX6_rootCount 0 := ⟨⟨cb_X6_rootCount _, rfl⟩, (inB 381 (by decide +kernel) (by decide +kernel)), (inB 382 (by decide +kernel) (by decide +kernel)), RX6, TX6, 5, (inB 383 (by decide +kernel) (by decide +kernel)), rfl⟩
theorem cb_X0_rootsMet (own : String) : CB own mX0_rootsMet 0 := ⟨inB 509 (by decide +kernel) (by decide +kernel), (inB 80 (by decide +kernel) (by decide +kernel)), by decide, by decide +kernel, by decide +kernel, by decide +kernel⟩
theorem v_X9_281 : CV RX9 281 4 mX0_rootsMet 0 := ⟨⟨cb_X0_rootsMet _, rfl⟩, (inB 506 (by decide +kernel) (by decide +kernel)), (inB 507 (by decide +kernel) (by decide +kernel)), RX0, TX0, 10, (inB 508 (by decide +kernel) (by decide +kernel)), rfl⟩
theorem cb_X9_rootsIn (own : String) : CB own mX9_rootsIn 1 := ⟨inB 894 (by decide +kernel) (by decide +kernel), (inB 68 (by decide +kernel) (by decide +kernel)), by decide, by decide +kernel, by decide +kernel, by decide +kernel⟩
theorem v_X9_284 : CV RX9 284 13 mX9_rootsIn 1 := ⟨⟨cb_X9_rootsIn _, rfl⟩, (inB 891 (by decide +kernel) (by decide +kernel)), (inB 893 (by decide +kernel) (by decide +kernel)), RX9, TX9, 9, (inB 12 (by decide +kernel) (by decide +kernel)), rfl⟩
theorem cb_X3_hasLastYear (own : String) : CB own mX3_hasLastYear 1 := ⟨inB 1423 (by decide +kernel) (by decide +kernel), (inB 75 (by decide +kernel) (by decide +kernel)), by decide, by decide +kernel, by decide +kernel, by decide +kernel⟩
theorem v_X9_288 : CV RX9 288 7 mX3_hasLastYear 1 := ⟨⟨cb_X3_hasLastYear _, rfl⟩, (inB 1420 (by decide +kernel) (by decide +kernel)), (inB 1421 (by decide +kernel) (by decide +kernel)), RX3, TX3, 4, (inB 1422 (by decide +kernel) (by decide +kernel)), rfl⟩
theorem cb_X3_inYear (own : String) : CB own mX3_inYear 1 := ⟨inB 1429 (by decide +kernel) (by decide +kernel), (inB 75 (by decide +kernel) (by decide +kernel)), by decide, by decide +kernel, by decide +kernel, by decide +kernel⟩
theorem v_X9_291 : CV RX9 291 7 mX3_inYear 1 := ⟨⟨cb_X3_inYear _, rfl⟩, (inB 1426 (by decide +kernel) (by decide +kernel)), (inB 1427 (by decide +kernel) (by decide +kernel)), RX3, TX3, 4, (inB 1428 (by decide +kernel) (by decide +kernel)), rfl⟩
theorem cb_X8_follow (own : String) : CB own mX8_follow 3 := ⟨inB 1440 (by decide +kernel) (by decide +kernel), (inB 81 (by decide +kernel) (by decide +kernel)), by decide, by decide +kernel, by decide +kernel, by decide +kernel⟩
theorem v_X9_294 : CV RX9 294 12 mX8_follow 3 := ⟨⟨cb_X8_follow _, rfl⟩, (inB 1437 (by decide +kernel) (by decide +kernel)), (inB 1438 (by decide +kernel) (by decide +kernel)), RX8, TX8, 3, (inB 1439 (by decide +kernel) (by decide +kernel)), rfl⟩
theorem cb_X0_leavesMet (own : String) : CB own mX0_leavesMet 0 := ⟨inB 1487 (by decide +kernel) (by decide +kernel), (inB 80 (by decide +kernel) (by decide +kernel)), by decide, by decide +kernel, by decide +kernel, by decide +kernel⟩
theorem v_X9_311 : CV RX9 311 4 mX0_leavesMet 0 := ⟨⟨cb_X0_leavesMet _, rfl⟩, (inB 1484 (by decide +kernel) (by decide +kernel)), (inB 1485 (by decide +kernel) (by decide +kernel)), RX0, TX0, 10, (inB 1486 (by decide +kernel) (by decide +kernel)), rfl⟩
theorem cb_X0_pointsGiven (own : String) : CB own mX0_pointsGiven 0 := ⟨inB 1491 (by decide +kernel) (by decide +kernel), (inB 80 (by decide +kernel) (by decide +kernel)), by decide, by decide +kernel, by decide +kernel, by decide +kernel⟩
theorem v_X9_314 : CV RX9 314 4 mX0_pointsGiven 0 := ⟨⟨cb_X0_pointsGiven _, rfl⟩, (inB 1488 (by decide +kernel) (by decide +kernel)), (inB 1489 (by decide +kernel) (by decide +kernel)), RX0, TX0, 10, (inB 1490 (by decide +kernel) (by decide +kernel)), rfl⟩
theorem cb_X3_pointsOfAll (own : String) : CB own mX3_pointsOfAll 0 := ⟨inB 1495 (by decide +kernel) (by decide +kernel), (inB 75 (by decide +kernel) (by decide +kernel)), by decide, by decide +kernel, by decide +kernel, by decide +kernel⟩
theorem v_X9_317 : CV RX9 317 7 mX3_pointsOfAll 0 := ⟨⟨cb_X3_pointsOfAll _, rfl⟩, (inB 1492 (by decide +kernel) (by decide +kernel)), (inB 1493 (by decide +kernel) (by decide +kernel)), RX3, TX3, 4, (inB 1494 (by decide +kernel) (by decide +kernel)), rfl⟩
theorem cb_X0_creditsLeft (own : String) : CB own mX0_creditsLeft 0 := ⟨inB 1499 (by decide +kernel) (by decide +kernel), (inB 80 (by decide +kernel) (by decide +kernel)), by decide, by decide +kernel, by decide +kernel, by decide +kernel⟩
theorem v_X9_320 : CV RX9 320 4 mX0_creditsLeft 0 := ⟨⟨cb_X0_creditsLeft _, rfl⟩, (inB 1496 (by decide +kernel) (by decide +kernel)), (inB 1497 (by decide +kernel) (by decide +kernel)), RX0, TX0, 10, (inB 1498 (by decide +kernel) (by decide +kernel)), rfl⟩
theorem cb_X0_weightedGrades (own : String) : CB own mX0_weightedGrades 0 := ⟨inB 1529 (by decide +kernel) (by decide +kernel), (inB 80 (by decide +kernel) (by decide +kernel)), by decide, by decide +kernel, by decide +kernel, by decide +kernel⟩
theorem v_X9_326 : CV RX9 326 4 mX0_weightedGrades 0 := ⟨⟨cb_X0_weightedGrades _, rfl⟩, (inB 1526 (by decide +kernel) (by decide +kernel)), (inB 1527 (by decide +kernel) (by decide +kernel)), RX0, TX0, 10, (inB 1528 (by decide +kernel) (by decide +kernel)), rfl⟩
theorem cb_X5_takeLatest (own : String) : CB own mX5_takeLatest 0 := ⟨inB 1540 (by decide +kernel) (by decide +kernel), (inB 74 (by decide +kernel) (by decide +kernel)), by decide, by decide +kernel, by decide +kernel, by decide +kernel⟩
theorem v_X9_329 : CV RX9 329 9 mX5_takeLatest 0 := ⟨⟨cb_X5_takeLatest _, rfl⟩, (inB 1537 (by decide +kernel) (by decide +kernel)), (inB 1538 (by decide +kernel) (by decide +kernel)), RX5, TX5, 2, (inB 1539 (by decide +kernel) (by decide +kernel)), rfl⟩
theorem cb_X5_forgetAll (own : String) : CB own mX5_forgetAll 0 := ⟨inB 1551 (by decide +kernel) (by decide +kernel), (inB 74 (by decide +kernel) (by decide +kernel)), by decide, by decide +kernel, by decide +kernel, by decide +kernel⟩
theorem v_X9_334 : CV RX9 334 9 mX5_forgetAll 0 := ⟨⟨cb_X5_forgetAll _, rfl⟩, (inB 1548 (by decide +kernel) (by decide +kernel)), (inB 1549 (by decide +kernel) (by decide +kernel)), RX5, TX5, 2, (inB 1550 (by decide +kernel) (by decide +kernel)), rfl⟩
theorem cb_X5_keep (own : String) : CB own mX5_keep 1 := ⟨inB 667 (by decide +kernel) (by decide +kernel), (inB 74 (by decide +kernel) (by decide +kernel)), by decide, by decide +kernel, by decide +kernel, by decide +kernel⟩
theorem v_X9_337 : CV RX9 337 9 mX5_keep 1 := ⟨⟨cb_X5_keep _, rfl⟩, (inB 664 (by decide +kernel) (by decide +kernel)), (inB 665 (by decide +kernel) (by decide +kernel)), RX5, TX5, 2, (inB 666 (by decide +kernel) (by decide +kernel)), rfl⟩
theorem cb_X0_findFor (own : String) : CB own mX0_findFor 1 := ⟨inB 392 (by decide +kernel) (by decide +kernel), (inB 80 (by decide +kernel) (by decide +kernel)), by decide, by decide +kernel, by decide +kernel, by decide +kernel⟩
theorem v_X9_347 : CV RX9 347 4 mX0_findFor 1 := ⟨⟨cb_X0_findFor _, rfl⟩, (inB 389 (by decide +kernel) (by decide +kernel)), (inB 390 (by decide +kernel) (by decide +kernel)), RX0, TX0, 10, (inB 391 (by decide +kernel) (by decide +kernel)), rfl⟩
theorem n_X9_7 : NW RX9 7 11 8 [.null, .int (J 0), .int (J 0), .null, .null, .int (J 0), .null, .int (J 0)] := ⟨RX7, TX7, tyX7, rfl, inw11, tyX7_ok, by decide +kernel, (inB 111 (by decide +kernel) (by decide +kernel)), (inB 112 (by decide +kernel) (by decide +kernel)), (inB 69 (by decide +kernel) (by decide +kernel))⟩
theorem n_X9_16 : NW RX9 16 9 2 [.null, .int (J 0)] := ⟨RX5, TX5, tyX5, rfl, inw9, tyX5_ok, by decide +kernel, (inB 179 (by decide +kernel) (by decide +kernel)), (inB 180 (by decide +kernel) (by decide +kernel)), (inB 74 (by decide +kernel) (by decide +kernel))⟩
theorem n_X9_23 : NW RX9 23 7 4 [.int (J 0), .null, .null, .null] := ⟨RX3, TX3, tyX3, rfl, inw7, tyX3_ok, by decide +kernel, (inB 195 (by decide +kernel) (by decide +kernel)), (inB 196 (by decide +kernel) (by decide +kernel)), (inB 75 (by decide +kernel) (by decide +kernel))⟩
theorem n_X9_25 : NW RX9 25 6 4 [.int (J 0), .int (J 0), .int (J 0), .int (J 0)] := ⟨RX2, TX2, tyX2, rfl, inw6, tyX2_ok, by decide +kernel, (inB 197 (by decide +kernel) (by decide +kernel)), (inB 621 (by decide +kernel) (by decide +kernel)), (inB 88 (by decide +kernel) (by decide +kernel))⟩
theorem n_X9_27 : NW RX9 27 8 4 [.int (J 0), .int (J 0), .int (J 0), .int (J 0)] := ⟨RX4, TX4, tyX4, rfl, inw8, tyX4_ok, by decide +kernel, (inB 199 (by decide +kernel) (by decide +kernel)), (inB 796 (by decide +kernel) (by decide +kernel)), (inB 95 (by decide +kernel) (by decide +kernel))⟩
theorem n_X9_29 : NW RX9 29 10 5 [.null, .null, .int (J 0), .null, .null] := ⟨RX6, TX6, tyX6, rfl, inw10, tyX6_ok, by decide +kernel, (inB 201 (by decide +kernel) (by decide +kernel)), (inB 202 (by decide +kernel) (by decide +kernel)), (inB 76 (by decide +kernel) (by decide +kernel))⟩
theorem n_X9_43 : NW RX9 43 4 10 [.null, .int (J 0), .int (J 0), .null, .null, .null, .null, .int (J 0), .int (J 0), .int (J 0)] := ⟨RX0, TX0, tyX0, rfl, inw4, tyX0_ok, by decide +kernel, (inB 289 (by decide +kernel) (by decide +kernel)), (inB 290 (by decide +kernel) (by decide +kernel)), (inB 80 (by decide +kernel) (by decide +kernel))⟩
theorem n_X9_55 : NW RX9 55 12 3 [.null, .null, .int (J 0)] := ⟨RX8, TX8, tyX8, rfl, inw12, tyX8_ok, by decide +kernel, (inB 326 (by decide +kernel) (by decide +kernel)), (inB 327 (by decide +kernel) (by decide +kernel)), (inB 81 (by decide +kernel) (by decide +kernel))⟩
theorem p_X9_10 : FP RX9 13 0 (.object "CreditTransfer$ProgramReader") := ⟨RX9, TX9, 9, tyX9, rfl, tyX9_ok, nmX9, tyX9_ok 0 (by decide), fun _ => rfl⟩
theorem ff_13_0 : FF 13 0 "<init>" := fun _ _ _ _ _ => rfl
theorem p_X9_19 : FP RX9 13 1 (.object "CreditTransfer$History") := ⟨RX9, TX9, 9, tyX9, rfl, tyX9_ok, nmX9, tyX9_ok 1 (by decide), fun _ => rfl⟩
theorem ff_13_1 : FF 13 1 "<init>" := fun _ _ _ _ _ => rfl
theorem p_X9_39 : FP RX9 13 5 (.object "CreditTransfer$Desk") := ⟨RX9, TX9, 9, tyX9, rfl, tyX9_ok, nmX9, tyX9_ok 5 (by decide), fun h => absurd h (by decide)⟩
theorem ff_13_5 (nm : String) : FF 13 5 nm := fun _ _ _ h1 h2 => by
  cases h1
  exact absurd h2 (by decide)
theorem p_X9_48 : FP RX9 13 2 (.object "CreditTransfer$BestUse") := ⟨RX9, TX9, 9, tyX9, rfl, tyX9_ok, nmX9, tyX9_ok 2 (by decide), fun _ => rfl⟩
theorem ff_13_2 : FF 13 2 "<init>" := fun _ _ _ _ _ => rfl
theorem p_X9_52 : FP RX9 13 3 (.object "CreditTransfer$BestUse") := ⟨RX9, TX9, 9, tyX9, rfl, tyX9_ok, nmX9, tyX9_ok 3 (by decide), fun _ => rfl⟩
theorem ff_13_3 : FF 13 3 "<init>" := fun _ _ _ _ _ => rfl
theorem p_X9_58 : FP RX9 13 4 (.object "CreditTransfer$Trace") := ⟨RX9, TX9, 9, tyX9, rfl, tyX9_ok, nmX9, tyX9_ok 4 (by decide), fun _ => rfl⟩
theorem ff_13_4 : FF 13 4 "<init>" := fun _ _ _ _ _ => rfl
theorem p_X9_62 : FP RX9 13 6 (.object "CreditTransfer$Desk") := ⟨RX9, TX9, 9, tyX9, rfl, tyX9_ok, nmX9, tyX9_ok 6 (by decide), fun h => absurd h (by decide)⟩
theorem ff_13_6 (nm : String) : FF 13 6 nm := fun _ _ _ h1 h2 => by
  cases h1
  exact absurd h2 (by decide)
theorem p_X9_65 : FP RX9 13 7 (.int) := ⟨RX9, TX9, 9, tyX9, rfl, tyX9_ok, nmX9, tyX9_ok 7 (by decide), fun h => absurd h (by decide)⟩
theorem ff_13_7 (nm : String) : FF 13 7 nm := fun _ _ _ h1 h2 => by
  cases h1
  exact absurd h2 (by decide)
theorem p_X9_69 : FP RX9 13 8 (.int) := ⟨RX9, TX9, 9, tyX9, rfl, tyX9_ok, nmX9, tyX9_ok 8 (by decide), fun h => absurd h (by decide)⟩
theorem ff_13_8 (nm : String) : FF 13 8 nm := fun _ _ _ h1 h2 => by
  cases h1
  exact absurd h2 (by decide)
theorem oI : Cond.instanceMethod objectInit ∈ BIG := (inB 109 (by decide +kernel) (by decide +kernel))
theorem oC : Cond.code objectInit ⟨#[0xb1]⟩ 1 none ∈ BIG := inB 110 (by decide +kernel) (by decide +kernel)
theorem ac_I : Cond.arrayClass (.int) ∈ BIG := (inB 178 (by decide +kernel) (by decide +kernel))
theorem ac_Z : Cond.arrayClass (.boolean) ∈ BIG := (inB 1640 (by decide +kernel) (by decide +kernel))
theorem ac_C : Cond.arrayClass (.char) ∈ BIG := (inB 149 (by decide +kernel) (by decide +kernel))
theorem ac_J : Cond.arrayClass (.long) ∈ BIG := (inB 1965 (by decide +kernel) (by decide +kernel))
theorem ac_D : Cond.arrayClass (.double) ∈ BIG := (inB 1966 (by decide +kernel) (by decide +kernel))
theorem ac_B : Cond.arrayClass (.byte) ∈ BIG := (inB 150 (by decide +kernel) (by decide +kernel))
