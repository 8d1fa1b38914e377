/-! the checks, the law and the JDK -/
theorem wk_Long_bitCount : am_ckW rk_Long_bitCount = true := by decide +kernel
theorem ok_Long_bitCount_0 : ((ck_Long_bitCount.drop (40 * 0)).take 40).all (am_ckE am_ms rk_Long_bitCount) = true := by decide +kernel
theorem ok_Long_bitCount_1 : ((ck_Long_bitCount.drop (40 * 1)).take 40).all (am_ckE am_ms rk_Long_bitCount) = true := by decide +kernel
theorem ok_Long_bitCount : am_ckM am_ms rk_Long_bitCount = true := by
  rw [am_ckM, Bool.and_eq_true]
  exact ⟨wk_Long_bitCount, am_chunks (n := 40) 2 ck_Long_bitCount (fun i hi => by
    match i, hi with
    | 0, _ => exact ok_Long_bitCount_0
    | 1, _ => exact ok_Long_bitCount_1
    | i + 2, hi => omega) (by decide +kernel)⟩
theorem wk_String_length : am_ckW rk_String_length = true := by decide +kernel
theorem ok_String_length : am_ckM am_ms rk_String_length = true := by rw [am_ckM, Bool.and_eq_true]; exact ⟨wk_String_length, by decide +kernel⟩
theorem wk_String_charAt : am_ckW rk_String_charAt = true := by decide +kernel
theorem ok_String_charAt : am_ckM am_ms rk_String_charAt = true := by rw [am_ckM, Bool.and_eq_true]; exact ⟨wk_String_charAt, by decide +kernel⟩
theorem wk_String_coder : am_ckW rk_String_coder = true := by decide +kernel
theorem ok_String_coder : am_ckM am_ms rk_String_coder = true := by rw [am_ckM, Bool.and_eq_true]; exact ⟨wk_String_coder, by decide +kernel⟩
theorem wk_String_isLatin1 : am_ckW rk_String_isLatin1 = true := by decide +kernel
theorem ok_String_isLatin1 : am_ckM am_ms rk_String_isLatin1 = true := by rw [am_ckM, Bool.and_eq_true]; exact ⟨wk_String_isLatin1, by decide +kernel⟩
theorem wk_String_checkIndex : am_ckW rk_String_checkIndex = true := by decide +kernel
theorem ok_String_checkIndex : am_ckM am_ms rk_String_checkIndex = true := by rw [am_ckM, Bool.and_eq_true]; exact ⟨wk_String_checkIndex, by decide +kernel⟩
theorem wk_StringLatin1_charAt : am_ckW rk_StringLatin1_charAt = true := by decide +kernel
theorem ok_StringLatin1_charAt : am_ckM am_ms rk_StringLatin1_charAt = true := by rw [am_ckM, Bool.and_eq_true]; exact ⟨wk_StringLatin1_charAt, by decide +kernel⟩
theorem wk_Arrays_fill : am_ckW rk_Arrays_fill = true := by decide +kernel
theorem ok_Arrays_fill : am_ckM am_ms rk_Arrays_fill = true := by rw [am_ckM, Bool.and_eq_true]; exact ⟨wk_Arrays_fill, by decide +kernel⟩
theorem wk_Arrays_fill_IIV : am_ckW rk_Arrays_fill_IIV = true := by decide +kernel
theorem ok_Arrays_fill_IIV : am_ckM am_ms rk_Arrays_fill_IIV = true := by rw [am_ckM, Bool.and_eq_true]; exact ⟨wk_Arrays_fill_IIV, by decide +kernel⟩
theorem wk_Preconditions_checkIndex : am_ckW rk_Preconditions_checkIndex = true := by decide +kernel
theorem ok_Preconditions_checkIndex : am_ckM am_ms rk_Preconditions_checkIndex = true := by rw [am_ckM, Bool.and_eq_true]; exact ⟨wk_Preconditions_checkIndex, by decide +kernel⟩
theorem wk_L_law : am_ckW rk_L_law = true := by decide +kernel
theorem ok_L_law_0 : ((ck_L_law.drop (40 * 0)).take 40).all (am_ckE am_ms rk_L_law) = true := by decide +kernel
theorem ok_L_law_1 : ((ck_L_law.drop (40 * 1)).take 40).all (am_ckE am_ms rk_L_law) = true := by decide +kernel
theorem ok_L_law_2 : ((ck_L_law.drop (40 * 2)).take 40).all (am_ckE am_ms rk_L_law) = true := by decide +kernel
theorem ok_L_law_3 : ((ck_L_law.drop (40 * 3)).take 40).all (am_ckE am_ms rk_L_law) = true := by decide +kernel
theorem ok_L_law_4 : ((ck_L_law.drop (40 * 4)).take 40).all (am_ckE am_ms rk_L_law) = true := by decide +kernel
theorem ok_L_law_5 : ((ck_L_law.drop (40 * 5)).take 40).all (am_ckE am_ms rk_L_law) = true := by decide +kernel
theorem ok_L_law_6 : ((ck_L_law.drop (40 * 6)).take 40).all (am_ckE am_ms rk_L_law) = true := by decide +kernel
theorem ok_L_law_7 : ((ck_L_law.drop (40 * 7)).take 40).all (am_ckE am_ms rk_L_law) = true := by decide +kernel
theorem ok_L_law_8 : ((ck_L_law.drop (40 * 8)).take 40).all (am_ckE am_ms rk_L_law) = true := by decide +kernel
theorem ok_L_law_9 : ((ck_L_law.drop (40 * 9)).take 40).all (am_ckE am_ms rk_L_law) = true := by decide +kernel
theorem ok_L_law_10 : ((ck_L_law.drop (40 * 10)).take 40).all (am_ckE am_ms rk_L_law) = true := by decide +kernel
theorem ok_L_law_11 : ((ck_L_law.drop (40 * 11)).take 40).all (am_ckE am_ms rk_L_law) = true := by decide +kernel
theorem ok_L_law_12 : ((ck_L_law.drop (40 * 12)).take 40).all (am_ckE am_ms rk_L_law) = true := by decide +kernel
theorem ok_L_law_13 : ((ck_L_law.drop (40 * 13)).take 40).all (am_ckE am_ms rk_L_law) = true := by decide +kernel
theorem ok_L_law_14 : ((ck_L_law.drop (40 * 14)).take 40).all (am_ckE am_ms rk_L_law) = true := by decide +kernel
theorem ok_L_law_15 : ((ck_L_law.drop (40 * 15)).take 40).all (am_ckE am_ms rk_L_law) = true := by decide +kernel
theorem ok_L_law_16 : ((ck_L_law.drop (40 * 16)).take 40).all (am_ckE am_ms rk_L_law) = true := by decide +kernel
theorem ok_L_law_17 : ((ck_L_law.drop (40 * 17)).take 40).all (am_ckE am_ms rk_L_law) = true := by decide +kernel
theorem ok_L_law_18 : ((ck_L_law.drop (40 * 18)).take 40).all (am_ckE am_ms rk_L_law) = true := by decide +kernel
theorem ok_L_law_19 : ((ck_L_law.drop (40 * 19)).take 40).all (am_ckE am_ms rk_L_law) = true := by decide +kernel
theorem ok_L_law_20 : ((ck_L_law.drop (40 * 20)).take 40).all (am_ckE am_ms rk_L_law) = true := by decide +kernel
theorem ok_L_law_21 : ((ck_L_law.drop (40 * 21)).take 40).all (am_ckE am_ms rk_L_law) = true := by decide +kernel
theorem ok_L_law_22 : ((ck_L_law.drop (40 * 22)).take 40).all (am_ckE am_ms rk_L_law) = true := by decide +kernel
theorem ok_L_law_23 : ((ck_L_law.drop (40 * 23)).take 40).all (am_ckE am_ms rk_L_law) = true := by decide +kernel
theorem ok_L_law_24 : ((ck_L_law.drop (40 * 24)).take 40).all (am_ckE am_ms rk_L_law) = true := by decide +kernel
theorem ok_L_law_25 : ((ck_L_law.drop (40 * 25)).take 40).all (am_ckE am_ms rk_L_law) = true := by decide +kernel
theorem ok_L_law : am_ckM am_ms rk_L_law = true := by
  rw [am_ckM, Bool.and_eq_true]
  exact ⟨wk_L_law, am_chunks (n := 40) 26 ck_L_law (fun i hi => by
    match i, hi with
    | 0, _ => exact ok_L_law_0
    | 1, _ => exact ok_L_law_1
    | 2, _ => exact ok_L_law_2
    | 3, _ => exact ok_L_law_3
    | 4, _ => exact ok_L_law_4
    | 5, _ => exact ok_L_law_5
    | 6, _ => exact ok_L_law_6
    | 7, _ => exact ok_L_law_7
    | 8, _ => exact ok_L_law_8
    | 9, _ => exact ok_L_law_9
    | 10, _ => exact ok_L_law_10
    | 11, _ => exact ok_L_law_11
    | 12, _ => exact ok_L_law_12
    | 13, _ => exact ok_L_law_13
    | 14, _ => exact ok_L_law_14
    | 15, _ => exact ok_L_law_15
    | 16, _ => exact ok_L_law_16
    | 17, _ => exact ok_L_law_17
    | 18, _ => exact ok_L_law_18
    | 19, _ => exact ok_L_law_19
    | 20, _ => exact ok_L_law_20
    | 21, _ => exact ok_L_law_21
    | 22, _ => exact ok_L_law_22
    | 23, _ => exact ok_L_law_23
    | 24, _ => exact ok_L_law_24
    | 25, _ => exact ok_L_law_25
    | i + 26, hi => omega) (by decide +kernel)⟩
set_option maxRecDepth 100000 in
theorem am_ms_ok : ∀ M ∈ am_ms, am_ckM am_ms M = true := List.forall_mem_cons.mpr ⟨ok_Album_init, List.forall_mem_cons.mpr ⟨ok_Album_isPicture, List.forall_mem_cons.mpr ⟨ok_Album_add, List.forall_mem_cons.mpr ⟨ok_Album_shutterOf, List.forall_mem_cons.mpr ⟨ok_Album_personsOn, List.forall_mem_cons.mpr ⟨ok_Album_distance, List.forall_mem_cons.mpr ⟨ok_Album_setOf, List.forall_mem_cons.mpr ⟨ok_Album_firstOf, List.forall_mem_cons.mpr ⟨ok_Album_difference, List.forall_mem_cons.mpr ⟨ok_Captions_init, List.forall_mem_cons.mpr ⟨ok_Captions_change, List.forall_mem_cons.mpr ⟨ok_Captions_picturesWithOneOf, List.forall_mem_cons.mpr ⟨ok_Captions_recall, List.forall_mem_cons.mpr ⟨ok_Ledger_init, List.forall_mem_cons.mpr ⟨ok_Ledger_hasRoom, List.forall_mem_cons.mpr ⟨ok_Ledger_add, List.forall_mem_cons.mpr ⟨ok_Ledger_saleAt, List.forall_mem_cons.mpr ⟨ok_Ledger_firstShutting, List.forall_mem_cons.mpr ⟨ok_Ledger_firstFor, List.forall_mem_cons.mpr ⟨ok_Ledger_lead, List.forall_mem_cons.mpr ⟨ok_Ledger_ledTo, List.forall_mem_cons.mpr ⟨ok_Ledger_gainOf, List.forall_mem_cons.mpr ⟨ok_Ledger_gainOfAgency, List.forall_mem_cons.mpr ⟨ok_Log_init, List.forall_mem_cons.mpr ⟨ok_Log_tell, List.forall_mem_cons.mpr ⟨ok_Log_latest, List.forall_mem_cons.mpr ⟨ok_Log_toldBy, List.forall_mem_cons.mpr ⟨ok_Log_thingAt, List.forall_mem_cons.mpr ⟨ok_Log_valueAt, List.forall_mem_cons.mpr ⟨ok_Reader_init, List.forall_mem_cons.mpr ⟨ok_Reader_readTape, List.forall_mem_cons.mpr ⟨ok_Reader_readClause, List.forall_mem_cons.mpr ⟨ok_Reader_readNumbers, List.forall_mem_cons.mpr ⟨ok_Reader_take, List.forall_mem_cons.mpr ⟨ok_Reader_takeLand, List.forall_mem_cons.mpr ⟨ok_Reader_takeUse, List.forall_mem_cons.mpr ⟨ok_Reader_takeFrom, List.forall_mem_cons.mpr ⟨ok_Reader_takeTo, List.forall_mem_cons.mpr ⟨ok_Reader_takeMost, List.forall_mem_cons.mpr ⟨ok_Reader_takeShunned, List.forall_mem_cons.mpr ⟨ok_Reader_fail, List.forall_mem_cons.mpr ⟨ok_Reader_clauseHere, List.forall_mem_cons.mpr ⟨ok_Reader_spells, List.forall_mem_cons.mpr ⟨ok_Reader_step, List.forall_mem_cons.mpr ⟨ok_Reader_stepOverLetters, List.forall_mem_cons.mpr ⟨ok_Reader_stepOverDigits, List.forall_mem_cons.mpr ⟨ok_Reader_isLetter, List.forall_mem_cons.mpr ⟨ok_Reader_isDigit, List.forall_mem_cons.mpr ⟨ok_Sale_init, List.forall_mem_cons.mpr ⟨ok_Sale_tellOf, List.forall_mem_cons.mpr ⟨ok_Shelf_init, List.forall_mem_cons.mpr ⟨ok_Shelf_hasRoom, List.forall_mem_cons.mpr ⟨ok_Shelf_add, List.forall_mem_cons.mpr ⟨ok_Shelf_textAt, List.forall_mem_cons.mpr ⟨ok_Tape_init, List.forall_mem_cons.mpr ⟨ok_Tape_append, List.forall_mem_cons.mpr ⟨ok_Tape_byteAt, List.forall_mem_cons.mpr ⟨ok_Terms_init, List.forall_mem_cons.mpr ⟨ok_Terms_allow, List.forall_mem_cons.mpr ⟨ok_WordTree_init, List.forall_mem_cons.mpr ⟨ok_WordTree_isWord, List.forall_mem_cons.mpr ⟨ok_WordTree_add, List.forall_mem_cons.mpr ⟨ok_WordTree_move, List.forall_mem_cons.mpr ⟨ok_WordTree_parentOf, List.forall_mem_cons.mpr ⟨ok_WordTree_chainOf, List.forall_mem_cons.mpr ⟨ok_WordTree_treeOf, List.forall_mem_cons.mpr ⟨ok_WordTree_canHold, List.forall_mem_cons.mpr ⟨ok_WordTree_recall, List.forall_mem_cons.mpr ⟨ok_WordTree_climb, List.forall_mem_cons.mpr ⟨ok_A_init, List.forall_mem_cons.mpr ⟨ok_A_minute, List.forall_mem_cons.mpr ⟨ok_A_word, List.forall_mem_cons.mpr ⟨ok_A_put, List.forall_mem_cons.mpr ⟨ok_A_within, List.forall_mem_cons.mpr ⟨ok_A_picture, List.forall_mem_cons.mpr ⟨ok_A_caption, List.forall_mem_cons.mpr ⟨ok_A_has, List.forall_mem_cons.mpr ⟨ok_A_search, List.forall_mem_cons.mpr ⟨ok_A_found, List.forall_mem_cons.mpr ⟨ok_A_far, List.forall_mem_cons.mpr ⟨ok_A_limit, List.forall_mem_cons.mpr ⟨ok_A_set, List.forall_mem_cons.mpr ⟨ok_A_leave, List.forall_mem_cons.mpr ⟨ok_A_embargo, List.forall_mem_cons.mpr ⟨ok_A_known, List.forall_mem_cons.mpr ⟨ok_A_feed, List.forall_mem_cons.mpr ⟨ok_A_end, List.forall_mem_cons.mpr ⟨ok_A_text, List.forall_mem_cons.mpr ⟨ok_A_fault, List.forall_mem_cons.mpr ⟨ok_A_why, List.forall_mem_cons.mpr ⟨ok_A_by, List.forall_mem_cons.mpr ⟨ok_A_rate, List.forall_mem_cons.mpr ⟨ok_A_sale, List.forall_mem_cons.mpr ⟨ok_A_strike, List.forall_mem_cons.mpr ⟨ok_A_saleOf, List.forall_mem_cons.mpr ⟨ok_A_got, List.forall_mem_cons.mpr ⟨ok_A_print, List.forall_mem_cons.mpr ⟨ok_A_printed, List.forall_mem_cons.mpr ⟨ok_A_about, List.forall_mem_cons.mpr ⟨ok_A_isMinute, List.forall_mem_cons.mpr ⟨ok_A_isPerson, List.forall_mem_cons.mpr ⟨ok_A_isLand, List.forall_mem_cons.mpr ⟨ok_A_isUse, List.forall_mem_cons.mpr ⟨ok_A_isSize, List.forall_mem_cons.mpr ⟨ok_A_holds, List.forall_mem_cons.mpr ⟨ok_A_isPast, List.forall_mem_cons.mpr ⟨ok_A_canBeUsed, List.forall_mem_cons.mpr ⟨ok_A_picturesWith, List.forall_mem_cons.mpr ⟨ok_A_textAgainst, List.forall_mem_cons.mpr ⟨ok_A_personAgainst, List.forall_mem_cons.mpr ⟨ok_A_saleAgainst, List.forall_mem_cons.mpr ⟨ok_A_split, List.forall_mem_cons.mpr ⟨ok_M_init, List.forall_mem_cons.mpr ⟨ok_M_isIn, List.forall_mem_cons.mpr ⟨ok_M_isWord, List.forall_mem_cons.mpr ⟨ok_M_isPicture, List.forall_mem_cons.mpr ⟨ok_M_isPast, List.forall_mem_cons.mpr ⟨ok_M_minute, List.forall_mem_cons.mpr ⟨ok_M_keepPut, List.forall_mem_cons.mpr ⟨ok_M_liesIn, List.forall_mem_cons.mpr ⟨ok_M_isOf, List.forall_mem_cons.mpr ⟨ok_M_word, List.forall_mem_cons.mpr ⟨ok_M_put, List.forall_mem_cons.mpr ⟨ok_M_within, List.forall_mem_cons.mpr ⟨ok_M_picture, List.forall_mem_cons.mpr ⟨ok_M_hasJust, List.forall_mem_cons.mpr ⟨ok_M_caption, List.forall_mem_cons.mpr ⟨ok_M_hasAny, List.forall_mem_cons.mpr ⟨ok_M_has, List.forall_mem_cons.mpr ⟨ok_M_isFound, List.forall_mem_cons.mpr ⟨ok_M_search, List.forall_mem_cons.mpr ⟨ok_M_found, List.forall_mem_cons.mpr ⟨ok_M_farOf, List.forall_mem_cons.mpr ⟨ok_M_far, List.forall_mem_cons.mpr ⟨ok_M_limit, List.forall_mem_cons.mpr ⟨ok_M_spread, List.forall_mem_cons.mpr ⟨ok_M_firstOf, List.forall_mem_cons.mpr ⟨ok_M_set, List.forall_mem_cons.mpr ⟨ok_M_leave, List.forall_mem_cons.mpr ⟨ok_M_embargo, List.forall_mem_cons.mpr ⟨ok_M_hasLeave, List.forall_mem_cons.mpr ⟨ok_M_embargoed, List.forall_mem_cons.mpr ⟨ok_M_known, List.forall_mem_cons.mpr ⟨ok_M_four, List.forall_mem_cons.mpr ⟨ok_M_feed, List.forall_mem_cons.mpr ⟨ok_M_end, List.forall_mem_cons.mpr ⟨ok_M_see, List.forall_mem_cons.mpr ⟨ok_M_isLetter, List.forall_mem_cons.mpr ⟨ok_M_isDigit, List.forall_mem_cons.mpr ⟨ok_M_pack, List.forall_mem_cons.mpr ⟨ok_M_wordOf, List.forall_mem_cons.mpr ⟨ok_M_nextToken, List.forall_mem_cons.mpr ⟨ok_M_isTold, List.forall_mem_cons.mpr ⟨ok_M_keep, List.forall_mem_cons.mpr ⟨ok_M_clause, List.forall_mem_cons.mpr ⟨ok_M_read, List.forall_mem_cons.mpr ⟨ok_M_text, List.forall_mem_cons.mpr ⟨ok_M_fault, List.forall_mem_cons.mpr ⟨ok_M_tells, List.forall_mem_cons.mpr ⟨ok_M_lets, List.forall_mem_cons.mpr ⟨ok_M_isUse, List.forall_mem_cons.mpr ⟨ok_M_whyNot, List.forall_mem_cons.mpr ⟨ok_M_isBeside, List.forall_mem_cons.mpr ⟨ok_M_why, List.forall_mem_cons.mpr ⟨ok_M_by, List.forall_mem_cons.mpr ⟨ok_M_rate, List.forall_mem_cons.mpr ⟨ok_M_sale, List.forall_mem_cons.mpr ⟨ok_M_strike, List.forall_mem_cons.mpr ⟨ok_M_saleOf, List.forall_mem_cons.mpr ⟨ok_M_got, List.forall_mem_cons.mpr ⟨ok_M_print, List.forall_mem_cons.mpr ⟨ok_M_printed, List.forall_mem_cons.mpr ⟨ok_M_about, List.forall_mem_cons.mpr ⟨ok_Long_bitCount, List.forall_mem_cons.mpr ⟨ok_String_length, List.forall_mem_cons.mpr ⟨ok_String_charAt, List.forall_mem_cons.mpr ⟨ok_String_coder, List.forall_mem_cons.mpr ⟨ok_String_isLatin1, List.forall_mem_cons.mpr ⟨ok_String_checkIndex, List.forall_mem_cons.mpr ⟨ok_StringLatin1_charAt, List.forall_mem_cons.mpr ⟨ok_Arrays_fill, List.forall_mem_cons.mpr ⟨ok_Arrays_fill_IIV, List.forall_mem_cons.mpr ⟨ok_Preconditions_checkIndex, List.forall_mem_cons.mpr ⟨ok_L_law, fun _ h => absurd h List.not_mem_nil⟩⟩⟩⟩⟩⟩⟩⟩⟩⟩⟩⟩⟩⟩⟩⟩⟩⟩⟩⟩⟩⟩⟩⟩⟩⟩⟩⟩⟩⟩⟩⟩⟩⟩⟩⟩⟩⟩⟩⟩⟩⟩⟩⟩⟩⟩⟩⟩⟩⟩⟩⟩⟩⟩⟩⟩⟩⟩⟩⟩⟩⟩⟩⟩⟩⟩⟩⟩⟩⟩⟩⟩⟩⟩⟩⟩⟩⟩⟩⟩⟩⟩⟩⟩⟩⟩⟩⟩⟩⟩⟩⟩⟩⟩⟩⟩⟩⟩⟩⟩⟩⟩⟩⟩⟩⟩⟩⟩⟩⟩⟩⟩⟩⟩⟩⟩⟩⟩⟩⟩⟩⟩⟩⟩⟩⟩⟩⟩⟩⟩⟩⟩⟩⟩⟩⟩⟩⟩⟩⟩⟩⟩⟩⟩⟩⟩⟩⟩⟩⟩⟩⟩⟩⟩⟩⟩⟩⟩⟩⟩⟩⟩⟩⟩⟩⟩⟩⟩⟩⟩⟩⟩⟩⟩⟩⟩⟩⟩⟩⟩⟩⟩⟩⟩
