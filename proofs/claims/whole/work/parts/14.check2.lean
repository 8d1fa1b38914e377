/-! the checks, the reference -/
theorem wk_M_init : am_ckW rk_M_init = true := by decide +kernel
theorem ok_M_init_0 : ((ck_M_init.drop (40 * 0)).take 40).all (am_ckE am_ms rk_M_init) = true := by decide +kernel
theorem ok_M_init_1 : ((ck_M_init.drop (40 * 1)).take 40).all (am_ckE am_ms rk_M_init) = true := by decide +kernel
theorem ok_M_init_2 : ((ck_M_init.drop (40 * 2)).take 40).all (am_ckE am_ms rk_M_init) = true := by decide +kernel
theorem ok_M_init_3 : ((ck_M_init.drop (40 * 3)).take 40).all (am_ckE am_ms rk_M_init) = true := by decide +kernel
theorem ok_M_init_4 : ((ck_M_init.drop (40 * 4)).take 40).all (am_ckE am_ms rk_M_init) = true := by decide +kernel
theorem ok_M_init_5 : ((ck_M_init.drop (40 * 5)).take 40).all (am_ckE am_ms rk_M_init) = true := by decide +kernel
theorem ok_M_init : am_ckM am_ms rk_M_init = true := by
  rw [am_ckM, Bool.and_eq_true]
  exact ⟨wk_M_init, am_chunks (n := 40) 6 ck_M_init (fun i hi => by
    match i, hi with
    | 0, _ => exact ok_M_init_0
    | 1, _ => exact ok_M_init_1
    | 2, _ => exact ok_M_init_2
    | 3, _ => exact ok_M_init_3
    | 4, _ => exact ok_M_init_4
    | 5, _ => exact ok_M_init_5
    | i + 6, hi => omega) (by decide +kernel)⟩
theorem wk_M_isIn : am_ckW rk_M_isIn = true := by decide +kernel
theorem ok_M_isIn : am_ckM am_ms rk_M_isIn = true := by rw [am_ckM, Bool.and_eq_true]; exact ⟨wk_M_isIn, by decide +kernel⟩
theorem wk_M_isWord : am_ckW rk_M_isWord = true := by decide +kernel
theorem ok_M_isWord : am_ckM am_ms rk_M_isWord = true := by rw [am_ckM, Bool.and_eq_true]; exact ⟨wk_M_isWord, by decide +kernel⟩
theorem wk_M_isPicture : am_ckW rk_M_isPicture = true := by decide +kernel
theorem ok_M_isPicture : am_ckM am_ms rk_M_isPicture = true := by rw [am_ckM, Bool.and_eq_true]; exact ⟨wk_M_isPicture, by decide +kernel⟩
theorem wk_M_isPast : am_ckW rk_M_isPast = true := by decide +kernel
theorem ok_M_isPast : am_ckM am_ms rk_M_isPast = true := by rw [am_ckM, Bool.and_eq_true]; exact ⟨wk_M_isPast, by decide +kernel⟩
theorem wk_M_minute : am_ckW rk_M_minute = true := by decide +kernel
theorem ok_M_minute : am_ckM am_ms rk_M_minute = true := by rw [am_ckM, Bool.and_eq_true]; exact ⟨wk_M_minute, by decide +kernel⟩
theorem wk_M_keepPut : am_ckW rk_M_keepPut = true := by decide +kernel
theorem ok_M_keepPut : am_ckM am_ms rk_M_keepPut = true := by rw [am_ckM, Bool.and_eq_true]; exact ⟨wk_M_keepPut, by decide +kernel⟩
theorem wk_M_liesIn : am_ckW rk_M_liesIn = true := by decide +kernel
theorem ok_M_liesIn : am_ckM am_ms rk_M_liesIn = true := by rw [am_ckM, Bool.and_eq_true]; exact ⟨wk_M_liesIn, by decide +kernel⟩
theorem wk_M_isOf : am_ckW rk_M_isOf = true := by decide +kernel
theorem ok_M_isOf : am_ckM am_ms rk_M_isOf = true := by rw [am_ckM, Bool.and_eq_true]; exact ⟨wk_M_isOf, by decide +kernel⟩
theorem wk_M_word : am_ckW rk_M_word = true := by decide +kernel
theorem ok_M_word : am_ckM am_ms rk_M_word = true := by rw [am_ckM, Bool.and_eq_true]; exact ⟨wk_M_word, by decide +kernel⟩
theorem wk_M_put : am_ckW rk_M_put = true := by decide +kernel
theorem ok_M_put : am_ckM am_ms rk_M_put = true := by rw [am_ckM, Bool.and_eq_true]; exact ⟨wk_M_put, by decide +kernel⟩
theorem wk_M_within : am_ckW rk_M_within = true := by decide +kernel
theorem ok_M_within : am_ckM am_ms rk_M_within = true := by rw [am_ckM, Bool.and_eq_true]; exact ⟨wk_M_within, by decide +kernel⟩
theorem wk_M_picture : am_ckW rk_M_picture = true := by decide +kernel
theorem ok_M_picture_0 : ((ck_M_picture.drop (40 * 0)).take 40).all (am_ckE am_ms rk_M_picture) = true := by decide +kernel
theorem ok_M_picture_1 : ((ck_M_picture.drop (40 * 1)).take 40).all (am_ckE am_ms rk_M_picture) = true := by decide +kernel
theorem ok_M_picture_2 : ((ck_M_picture.drop (40 * 2)).take 40).all (am_ckE am_ms rk_M_picture) = true := by decide +kernel
theorem ok_M_picture : am_ckM am_ms rk_M_picture = true := by
  rw [am_ckM, Bool.and_eq_true]
  exact ⟨wk_M_picture, am_chunks (n := 40) 3 ck_M_picture (fun i hi => by
    match i, hi with
    | 0, _ => exact ok_M_picture_0
    | 1, _ => exact ok_M_picture_1
    | 2, _ => exact ok_M_picture_2
    | i + 3, hi => omega) (by decide +kernel)⟩
theorem wk_M_hasJust : am_ckW rk_M_hasJust = true := by decide +kernel
theorem ok_M_hasJust_0 : ((ck_M_hasJust.drop (40 * 0)).take 40).all (am_ckE am_ms rk_M_hasJust) = true := by decide +kernel
theorem ok_M_hasJust_1 : ((ck_M_hasJust.drop (40 * 1)).take 40).all (am_ckE am_ms rk_M_hasJust) = true := by decide +kernel
theorem ok_M_hasJust : am_ckM am_ms rk_M_hasJust = true := by
  rw [am_ckM, Bool.and_eq_true]
  exact ⟨wk_M_hasJust, am_chunks (n := 40) 2 ck_M_hasJust (fun i hi => by
    match i, hi with
    | 0, _ => exact ok_M_hasJust_0
    | 1, _ => exact ok_M_hasJust_1
    | i + 2, hi => omega) (by decide +kernel)⟩
theorem wk_M_caption : am_ckW rk_M_caption = true := by decide +kernel
theorem ok_M_caption_0 : ((ck_M_caption.drop (40 * 0)).take 40).all (am_ckE am_ms rk_M_caption) = true := by decide +kernel
theorem ok_M_caption_1 : ((ck_M_caption.drop (40 * 1)).take 40).all (am_ckE am_ms rk_M_caption) = true := by decide +kernel
theorem ok_M_caption : am_ckM am_ms rk_M_caption = true := by
  rw [am_ckM, Bool.and_eq_true]
  exact ⟨wk_M_caption, am_chunks (n := 40) 2 ck_M_caption (fun i hi => by
    match i, hi with
    | 0, _ => exact ok_M_caption_0
    | 1, _ => exact ok_M_caption_1
    | i + 2, hi => omega) (by decide +kernel)⟩
theorem wk_M_hasAny : am_ckW rk_M_hasAny = true := by decide +kernel
theorem ok_M_hasAny : am_ckM am_ms rk_M_hasAny = true := by rw [am_ckM, Bool.and_eq_true]; exact ⟨wk_M_hasAny, by decide +kernel⟩
theorem wk_M_has : am_ckW rk_M_has = true := by decide +kernel
theorem ok_M_has : am_ckM am_ms rk_M_has = true := by rw [am_ckM, Bool.and_eq_true]; exact ⟨wk_M_has, by decide +kernel⟩
theorem wk_M_isFound : am_ckW rk_M_isFound = true := by decide +kernel
theorem ok_M_isFound : am_ckM am_ms rk_M_isFound = true := by rw [am_ckM, Bool.and_eq_true]; exact ⟨wk_M_isFound, by decide +kernel⟩
theorem wk_M_search : am_ckW rk_M_search = true := by decide +kernel
theorem ok_M_search : am_ckM am_ms rk_M_search = true := by rw [am_ckM, Bool.and_eq_true]; exact ⟨wk_M_search, by decide +kernel⟩
theorem wk_M_found : am_ckW rk_M_found = true := by decide +kernel
theorem ok_M_found : am_ckM am_ms rk_M_found = true := by rw [am_ckM, Bool.and_eq_true]; exact ⟨wk_M_found, by decide +kernel⟩
theorem wk_M_farOf : am_ckW rk_M_farOf = true := by decide +kernel
theorem ok_M_farOf : am_ckM am_ms rk_M_farOf = true := by rw [am_ckM, Bool.and_eq_true]; exact ⟨wk_M_farOf, by decide +kernel⟩
theorem wk_M_far : am_ckW rk_M_far = true := by decide +kernel
theorem ok_M_far : am_ckM am_ms rk_M_far = true := by rw [am_ckM, Bool.and_eq_true]; exact ⟨wk_M_far, by decide +kernel⟩
theorem wk_M_limit : am_ckW rk_M_limit = true := by decide +kernel
theorem ok_M_limit : am_ckM am_ms rk_M_limit = true := by rw [am_ckM, Bool.and_eq_true]; exact ⟨wk_M_limit, by decide +kernel⟩
theorem wk_M_spread : am_ckW rk_M_spread = true := by decide +kernel
theorem ok_M_spread_0 : ((ck_M_spread.drop (40 * 0)).take 40).all (am_ckE am_ms rk_M_spread) = true := by decide +kernel
theorem ok_M_spread_1 : ((ck_M_spread.drop (40 * 1)).take 40).all (am_ckE am_ms rk_M_spread) = true := by decide +kernel
theorem ok_M_spread : am_ckM am_ms rk_M_spread = true := by
  rw [am_ckM, Bool.and_eq_true]
  exact ⟨wk_M_spread, am_chunks (n := 40) 2 ck_M_spread (fun i hi => by
    match i, hi with
    | 0, _ => exact ok_M_spread_0
    | 1, _ => exact ok_M_spread_1
    | i + 2, hi => omega) (by decide +kernel)⟩
theorem wk_M_firstOf : am_ckW rk_M_firstOf = true := by decide +kernel
theorem ok_M_firstOf : am_ckM am_ms rk_M_firstOf = true := by rw [am_ckM, Bool.and_eq_true]; exact ⟨wk_M_firstOf, by decide +kernel⟩
theorem wk_M_set : am_ckW rk_M_set = true := by decide +kernel
theorem ok_M_set_0 : ((ck_M_set.drop (40 * 0)).take 40).all (am_ckE am_ms rk_M_set) = true := by decide +kernel
theorem ok_M_set_1 : ((ck_M_set.drop (40 * 1)).take 40).all (am_ckE am_ms rk_M_set) = true := by decide +kernel
theorem ok_M_set : am_ckM am_ms rk_M_set = true := by
  rw [am_ckM, Bool.and_eq_true]
  exact ⟨wk_M_set, am_chunks (n := 40) 2 ck_M_set (fun i hi => by
    match i, hi with
    | 0, _ => exact ok_M_set_0
    | 1, _ => exact ok_M_set_1
    | i + 2, hi => omega) (by decide +kernel)⟩
theorem wk_M_leave : am_ckW rk_M_leave = true := by decide +kernel
theorem ok_M_leave : am_ckM am_ms rk_M_leave = true := by rw [am_ckM, Bool.and_eq_true]; exact ⟨wk_M_leave, by decide +kernel⟩
theorem wk_M_embargo : am_ckW rk_M_embargo = true := by decide +kernel
theorem ok_M_embargo_0 : ((ck_M_embargo.drop (40 * 0)).take 40).all (am_ckE am_ms rk_M_embargo) = true := by decide +kernel
theorem ok_M_embargo_1 : ((ck_M_embargo.drop (40 * 1)).take 40).all (am_ckE am_ms rk_M_embargo) = true := by decide +kernel
theorem ok_M_embargo : am_ckM am_ms rk_M_embargo = true := by
  rw [am_ckM, Bool.and_eq_true]
  exact ⟨wk_M_embargo, am_chunks (n := 40) 2 ck_M_embargo (fun i hi => by
    match i, hi with
    | 0, _ => exact ok_M_embargo_0
    | 1, _ => exact ok_M_embargo_1
    | i + 2, hi => omega) (by decide +kernel)⟩
theorem wk_M_hasLeave : am_ckW rk_M_hasLeave = true := by decide +kernel
theorem ok_M_hasLeave : am_ckM am_ms rk_M_hasLeave = true := by rw [am_ckM, Bool.and_eq_true]; exact ⟨wk_M_hasLeave, by decide +kernel⟩
theorem wk_M_embargoed : am_ckW rk_M_embargoed = true := by decide +kernel
theorem ok_M_embargoed : am_ckM am_ms rk_M_embargoed = true := by rw [am_ckM, Bool.and_eq_true]; exact ⟨wk_M_embargoed, by decide +kernel⟩
theorem wk_M_known : am_ckW rk_M_known = true := by decide +kernel
theorem ok_M_known : am_ckM am_ms rk_M_known = true := by rw [am_ckM, Bool.and_eq_true]; exact ⟨wk_M_known, by decide +kernel⟩
theorem wk_M_four : am_ckW rk_M_four = true := by decide +kernel
theorem ok_M_four : am_ckM am_ms rk_M_four = true := by rw [am_ckM, Bool.and_eq_true]; exact ⟨wk_M_four, by decide +kernel⟩
theorem wk_M_feed : am_ckW rk_M_feed = true := by decide +kernel
theorem ok_M_feed : am_ckM am_ms rk_M_feed = true := by rw [am_ckM, Bool.and_eq_true]; exact ⟨wk_M_feed, by decide +kernel⟩
theorem wk_M_end : am_ckW rk_M_end = true := by decide +kernel
theorem ok_M_end : am_ckM am_ms rk_M_end = true := by rw [am_ckM, Bool.and_eq_true]; exact ⟨wk_M_end, by decide +kernel⟩
theorem wk_M_see : am_ckW rk_M_see = true := by decide +kernel
theorem ok_M_see : am_ckM am_ms rk_M_see = true := by rw [am_ckM, Bool.and_eq_true]; exact ⟨wk_M_see, by decide +kernel⟩
theorem wk_M_isLetter : am_ckW rk_M_isLetter = true := by decide +kernel
theorem ok_M_isLetter : am_ckM am_ms rk_M_isLetter = true := by rw [am_ckM, Bool.and_eq_true]; exact ⟨wk_M_isLetter, by decide +kernel⟩
theorem wk_M_isDigit : am_ckW rk_M_isDigit = true := by decide +kernel
theorem ok_M_isDigit : am_ckM am_ms rk_M_isDigit = true := by rw [am_ckM, Bool.and_eq_true]; exact ⟨wk_M_isDigit, by decide +kernel⟩
theorem wk_M_pack : am_ckW rk_M_pack = true := by decide +kernel
theorem ok_M_pack : am_ckM am_ms rk_M_pack = true := by rw [am_ckM, Bool.and_eq_true]; exact ⟨wk_M_pack, by decide +kernel⟩
theorem wk_M_wordOf : am_ckW rk_M_wordOf = true := by decide +kernel
theorem ok_M_wordOf_0 : ((ck_M_wordOf.drop (40 * 0)).take 40).all (am_ckE am_ms rk_M_wordOf) = true := by decide +kernel
theorem ok_M_wordOf_1 : ((ck_M_wordOf.drop (40 * 1)).take 40).all (am_ckE am_ms rk_M_wordOf) = true := by decide +kernel
theorem ok_M_wordOf : am_ckM am_ms rk_M_wordOf = true := by
  rw [am_ckM, Bool.and_eq_true]
  exact ⟨wk_M_wordOf, am_chunks (n := 40) 2 ck_M_wordOf (fun i hi => by
    match i, hi with
    | 0, _ => exact ok_M_wordOf_0
    | 1, _ => exact ok_M_wordOf_1
    | i + 2, hi => omega) (by decide +kernel)⟩
theorem wk_M_nextToken : am_ckW rk_M_nextToken = true := by decide +kernel
theorem ok_M_nextToken_0 : ((ck_M_nextToken.drop (40 * 0)).take 40).all (am_ckE am_ms rk_M_nextToken) = true := by decide +kernel
theorem ok_M_nextToken_1 : ((ck_M_nextToken.drop (40 * 1)).take 40).all (am_ckE am_ms rk_M_nextToken) = true := by decide +kernel
theorem ok_M_nextToken_2 : ((ck_M_nextToken.drop (40 * 2)).take 40).all (am_ckE am_ms rk_M_nextToken) = true := by decide +kernel
theorem ok_M_nextToken_3 : ((ck_M_nextToken.drop (40 * 3)).take 40).all (am_ckE am_ms rk_M_nextToken) = true := by decide +kernel
theorem ok_M_nextToken : am_ckM am_ms rk_M_nextToken = true := by
  rw [am_ckM, Bool.and_eq_true]
  exact ⟨wk_M_nextToken, am_chunks (n := 40) 4 ck_M_nextToken (fun i hi => by
    match i, hi with
    | 0, _ => exact ok_M_nextToken_0
    | 1, _ => exact ok_M_nextToken_1
    | 2, _ => exact ok_M_nextToken_2
    | 3, _ => exact ok_M_nextToken_3
    | i + 4, hi => omega) (by decide +kernel)⟩
theorem wk_M_isTold : am_ckW rk_M_isTold = true := by decide +kernel
theorem ok_M_isTold_0 : ((ck_M_isTold.drop (40 * 0)).take 40).all (am_ckE am_ms rk_M_isTold) = true := by decide +kernel
theorem ok_M_isTold_1 : ((ck_M_isTold.drop (40 * 1)).take 40).all (am_ckE am_ms rk_M_isTold) = true := by decide +kernel
theorem ok_M_isTold : am_ckM am_ms rk_M_isTold = true := by
  rw [am_ckM, Bool.and_eq_true]
  exact ⟨wk_M_isTold, am_chunks (n := 40) 2 ck_M_isTold (fun i hi => by
    match i, hi with
    | 0, _ => exact ok_M_isTold_0
    | 1, _ => exact ok_M_isTold_1
    | i + 2, hi => omega) (by decide +kernel)⟩
theorem wk_M_keep : am_ckW rk_M_keep = true := by decide +kernel
theorem ok_M_keep_0 : ((ck_M_keep.drop (40 * 0)).take 40).all (am_ckE am_ms rk_M_keep) = true := by decide +kernel
theorem ok_M_keep_1 : ((ck_M_keep.drop (40 * 1)).take 40).all (am_ckE am_ms rk_M_keep) = true := by decide +kernel
theorem ok_M_keep : am_ckM am_ms rk_M_keep = true := by
  rw [am_ckM, Bool.and_eq_true]
  exact ⟨wk_M_keep, am_chunks (n := 40) 2 ck_M_keep (fun i hi => by
    match i, hi with
    | 0, _ => exact ok_M_keep_0
    | 1, _ => exact ok_M_keep_1
    | i + 2, hi => omega) (by decide +kernel)⟩
theorem wk_M_clause : am_ckW rk_M_clause = true := by decide +kernel
theorem ok_M_clause_0 : ((ck_M_clause.drop (40 * 0)).take 40).all (am_ckE am_ms rk_M_clause) = true := by decide +kernel
theorem ok_M_clause_1 : ((ck_M_clause.drop (40 * 1)).take 40).all (am_ckE am_ms rk_M_clause) = true := by decide +kernel
theorem ok_M_clause_2 : ((ck_M_clause.drop (40 * 2)).take 40).all (am_ckE am_ms rk_M_clause) = true := by decide +kernel
theorem ok_M_clause : am_ckM am_ms rk_M_clause = true := by
  rw [am_ckM, Bool.and_eq_true]
  exact ⟨wk_M_clause, am_chunks (n := 40) 3 ck_M_clause (fun i hi => by
    match i, hi with
    | 0, _ => exact ok_M_clause_0
    | 1, _ => exact ok_M_clause_1
    | 2, _ => exact ok_M_clause_2
    | i + 3, hi => omega) (by decide +kernel)⟩
theorem wk_M_read : am_ckW rk_M_read = true := by decide +kernel
theorem ok_M_read : am_ckM am_ms rk_M_read = true := by rw [am_ckM, Bool.and_eq_true]; exact ⟨wk_M_read, by decide +kernel⟩
theorem wk_M_text : am_ckW rk_M_text = true := by decide +kernel
theorem ok_M_text_0 : ((ck_M_text.drop (40 * 0)).take 40).all (am_ckE am_ms rk_M_text) = true := by decide +kernel
theorem ok_M_text_1 : ((ck_M_text.drop (40 * 1)).take 40).all (am_ckE am_ms rk_M_text) = true := by decide +kernel
theorem ok_M_text_2 : ((ck_M_text.drop (40 * 2)).take 40).all (am_ckE am_ms rk_M_text) = true := by decide +kernel
theorem ok_M_text : am_ckM am_ms rk_M_text = true := by
  rw [am_ckM, Bool.and_eq_true]
  exact ⟨wk_M_text, am_chunks (n := 40) 3 ck_M_text (fun i hi => by
    match i, hi with
    | 0, _ => exact ok_M_text_0
    | 1, _ => exact ok_M_text_1
    | 2, _ => exact ok_M_text_2
    | i + 3, hi => omega) (by decide +kernel)⟩
theorem wk_M_fault : am_ckW rk_M_fault = true := by decide +kernel
theorem ok_M_fault : am_ckM am_ms rk_M_fault = true := by rw [am_ckM, Bool.and_eq_true]; exact ⟨wk_M_fault, by decide +kernel⟩
theorem wk_M_tells : am_ckW rk_M_tells = true := by decide +kernel
theorem ok_M_tells : am_ckM am_ms rk_M_tells = true := by rw [am_ckM, Bool.and_eq_true]; exact ⟨wk_M_tells, by decide +kernel⟩
theorem wk_M_lets : am_ckW rk_M_lets = true := by decide +kernel
theorem ok_M_lets_0 : ((ck_M_lets.drop (40 * 0)).take 40).all (am_ckE am_ms rk_M_lets) = true := by decide +kernel
theorem ok_M_lets_1 : ((ck_M_lets.drop (40 * 1)).take 40).all (am_ckE am_ms rk_M_lets) = true := by decide +kernel
theorem ok_M_lets_2 : ((ck_M_lets.drop (40 * 2)).take 40).all (am_ckE am_ms rk_M_lets) = true := by decide +kernel
theorem ok_M_lets : am_ckM am_ms rk_M_lets = true := by
  rw [am_ckM, Bool.and_eq_true]
  exact ⟨wk_M_lets, am_chunks (n := 40) 3 ck_M_lets (fun i hi => by
    match i, hi with
    | 0, _ => exact ok_M_lets_0
    | 1, _ => exact ok_M_lets_1
    | 2, _ => exact ok_M_lets_2
    | i + 3, hi => omega) (by decide +kernel)⟩
theorem wk_M_isUse : am_ckW rk_M_isUse = true := by decide +kernel
theorem ok_M_isUse : am_ckM am_ms rk_M_isUse = true := by rw [am_ckM, Bool.and_eq_true]; exact ⟨wk_M_isUse, by decide +kernel⟩
theorem wk_M_whyNot : am_ckW rk_M_whyNot = true := by decide +kernel
theorem ok_M_whyNot_0 : ((ck_M_whyNot.drop (40 * 0)).take 40).all (am_ckE am_ms rk_M_whyNot) = true := by decide +kernel
theorem ok_M_whyNot_1 : ((ck_M_whyNot.drop (40 * 1)).take 40).all (am_ckE am_ms rk_M_whyNot) = true := by decide +kernel
theorem ok_M_whyNot_2 : ((ck_M_whyNot.drop (40 * 2)).take 40).all (am_ckE am_ms rk_M_whyNot) = true := by decide +kernel
theorem ok_M_whyNot : am_ckM am_ms rk_M_whyNot = true := by
  rw [am_ckM, Bool.and_eq_true]
  exact ⟨wk_M_whyNot, am_chunks (n := 40) 3 ck_M_whyNot (fun i hi => by
    match i, hi with
    | 0, _ => exact ok_M_whyNot_0
    | 1, _ => exact ok_M_whyNot_1
    | 2, _ => exact ok_M_whyNot_2
    | i + 3, hi => omega) (by decide +kernel)⟩
theorem wk_M_isBeside : am_ckW rk_M_isBeside = true := by decide +kernel
theorem ok_M_isBeside : am_ckM am_ms rk_M_isBeside = true := by rw [am_ckM, Bool.and_eq_true]; exact ⟨wk_M_isBeside, by decide +kernel⟩
theorem wk_M_why : am_ckW rk_M_why = true := by decide +kernel
theorem ok_M_why : am_ckM am_ms rk_M_why = true := by rw [am_ckM, Bool.and_eq_true]; exact ⟨wk_M_why, by decide +kernel⟩
theorem wk_M_by : am_ckW rk_M_by = true := by decide +kernel
theorem ok_M_by : am_ckM am_ms rk_M_by = true := by rw [am_ckM, Bool.and_eq_true]; exact ⟨wk_M_by, by decide +kernel⟩
theorem wk_M_rate : am_ckW rk_M_rate = true := by decide +kernel
theorem ok_M_rate : am_ckM am_ms rk_M_rate = true := by rw [am_ckM, Bool.and_eq_true]; exact ⟨wk_M_rate, by decide +kernel⟩
theorem wk_M_sale : am_ckW rk_M_sale = true := by decide +kernel
theorem ok_M_sale_0 : ((ck_M_sale.drop (40 * 0)).take 40).all (am_ckE am_ms rk_M_sale) = true := by decide +kernel
theorem ok_M_sale_1 : ((ck_M_sale.drop (40 * 1)).take 40).all (am_ckE am_ms rk_M_sale) = true := by decide +kernel
theorem ok_M_sale_2 : ((ck_M_sale.drop (40 * 2)).take 40).all (am_ckE am_ms rk_M_sale) = true := by decide +kernel
theorem ok_M_sale_3 : ((ck_M_sale.drop (40 * 3)).take 40).all (am_ckE am_ms rk_M_sale) = true := by decide +kernel
theorem ok_M_sale : am_ckM am_ms rk_M_sale = true := by
  rw [am_ckM, Bool.and_eq_true]
  exact ⟨wk_M_sale, am_chunks (n := 40) 4 ck_M_sale (fun i hi => by
    match i, hi with
    | 0, _ => exact ok_M_sale_0
    | 1, _ => exact ok_M_sale_1
    | 2, _ => exact ok_M_sale_2
    | 3, _ => exact ok_M_sale_3
    | i + 4, hi => omega) (by decide +kernel)⟩
theorem wk_M_strike : am_ckW rk_M_strike = true := by decide +kernel
theorem ok_M_strike : am_ckM am_ms rk_M_strike = true := by rw [am_ckM, Bool.and_eq_true]; exact ⟨wk_M_strike, by decide +kernel⟩
theorem wk_M_saleOf : am_ckW rk_M_saleOf = true := by decide +kernel
theorem ok_M_saleOf_0 : ((ck_M_saleOf.drop (40 * 0)).take 40).all (am_ckE am_ms rk_M_saleOf) = true := by decide +kernel
theorem ok_M_saleOf_1 : ((ck_M_saleOf.drop (40 * 1)).take 40).all (am_ckE am_ms rk_M_saleOf) = true := by decide +kernel
theorem ok_M_saleOf : am_ckM am_ms rk_M_saleOf = true := by
  rw [am_ckM, Bool.and_eq_true]
  exact ⟨wk_M_saleOf, am_chunks (n := 40) 2 ck_M_saleOf (fun i hi => by
    match i, hi with
    | 0, _ => exact ok_M_saleOf_0
    | 1, _ => exact ok_M_saleOf_1
    | i + 2, hi => omega) (by decide +kernel)⟩
theorem wk_M_got : am_ckW rk_M_got = true := by decide +kernel
theorem ok_M_got_0 : ((ck_M_got.drop (40 * 0)).take 40).all (am_ckE am_ms rk_M_got) = true := by decide +kernel
theorem ok_M_got_1 : ((ck_M_got.drop (40 * 1)).take 40).all (am_ckE am_ms rk_M_got) = true := by decide +kernel
theorem ok_M_got : am_ckM am_ms rk_M_got = true := by
  rw [am_ckM, Bool.and_eq_true]
  exact ⟨wk_M_got, am_chunks (n := 40) 2 ck_M_got (fun i hi => by
    match i, hi with
    | 0, _ => exact ok_M_got_0
    | 1, _ => exact ok_M_got_1
    | i + 2, hi => omega) (by decide +kernel)⟩
theorem wk_M_print : am_ckW rk_M_print = true := by decide +kernel
theorem ok_M_print_0 : ((ck_M_print.drop (40 * 0)).take 40).all (am_ckE am_ms rk_M_print) = true := by decide +kernel
theorem ok_M_print_1 : ((ck_M_print.drop (40 * 1)).take 40).all (am_ckE am_ms rk_M_print) = true := by decide +kernel
theorem ok_M_print_2 : ((ck_M_print.drop (40 * 2)).take 40).all (am_ckE am_ms rk_M_print) = true := by decide +kernel
theorem ok_M_print : am_ckM am_ms rk_M_print = true := by
  rw [am_ckM, Bool.and_eq_true]
  exact ⟨wk_M_print, am_chunks (n := 40) 3 ck_M_print (fun i hi => by
    match i, hi with
    | 0, _ => exact ok_M_print_0
    | 1, _ => exact ok_M_print_1
    | 2, _ => exact ok_M_print_2
    | i + 3, hi => omega) (by decide +kernel)⟩
theorem wk_M_printed : am_ckW rk_M_printed = true := by decide +kernel
theorem ok_M_printed : am_ckM am_ms rk_M_printed = true := by rw [am_ckM, Bool.and_eq_true]; exact ⟨wk_M_printed, by decide +kernel⟩
theorem wk_M_about : am_ckW rk_M_about = true := by decide +kernel
theorem ok_M_about_0 : ((ck_M_about.drop (40 * 0)).take 40).all (am_ckE am_ms rk_M_about) = true := by decide +kernel
theorem ok_M_about_1 : ((ck_M_about.drop (40 * 1)).take 40).all (am_ckE am_ms rk_M_about) = true := by decide +kernel
theorem ok_M_about : am_ckM am_ms rk_M_about = true := by
  rw [am_ckM, Bool.and_eq_true]
  exact ⟨wk_M_about, am_chunks (n := 40) 2 ck_M_about (fun i hi => by
    match i, hi with
    | 0, _ => exact ok_M_about_0
    | 1, _ => exact ok_M_about_1
    | i + 2, hi => omega) (by decide +kernel)⟩
