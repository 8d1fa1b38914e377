/-! THE CHECKS, row by row, by the kernel -/
theorem am_chunks {α : Type} {f : α → Bool} {n : Nat} : ∀ (k : Nat) (c : List α), (∀ i, i < k → ((c.drop (n * i)).take n).all f = true) → c.length ≤ n * k → c.all f = true := by
  intro k
  induction k with
  | zero =>
    intro c _ hl
    have : c = [] := List.length_eq_zero_iff.mp (by omega)
    subst this
    rfl
  | succ k ih =>
    intro c h hl
    rw [← List.take_append_drop n c, List.all_append, Bool.and_eq_true]
    refine ⟨by simpa using h 0 (Nat.zero_lt_succ k), ih (c.drop n) (fun i hi => ?_) (by rw [List.length_drop]; rw [Nat.mul_add, Nat.mul_one] at hl; omega)⟩
    have h1 := h (i + 1) (by omega)
    rw [List.drop_drop]
    rw [Nat.mul_succ] at h1
    rw [Nat.add_comm n (n * i)]
    exact h1
theorem wk_Album_init : am_ckW rk_Album_init = true := by decide +kernel
theorem ok_Album_init : am_ckM am_ms rk_Album_init = true := by rw [am_ckM, Bool.and_eq_true]; exact ⟨wk_Album_init, by decide +kernel⟩
theorem wk_Album_isPicture : am_ckW rk_Album_isPicture = true := by decide +kernel
theorem ok_Album_isPicture : am_ckM am_ms rk_Album_isPicture = true := by rw [am_ckM, Bool.and_eq_true]; exact ⟨wk_Album_isPicture, by decide +kernel⟩
theorem wk_Album_add : am_ckW rk_Album_add = true := by decide +kernel
theorem ok_Album_add_0 : ((ck_Album_add.drop (40 * 0)).take 40).all (am_ckE am_ms rk_Album_add) = true := by decide +kernel
theorem ok_Album_add_1 : ((ck_Album_add.drop (40 * 1)).take 40).all (am_ckE am_ms rk_Album_add) = true := by decide +kernel
theorem ok_Album_add : am_ckM am_ms rk_Album_add = true := by
  rw [am_ckM, Bool.and_eq_true]
  exact ⟨wk_Album_add, am_chunks (n := 40) 2 ck_Album_add (fun i hi => by
    match i, hi with
    | 0, _ => exact ok_Album_add_0
    | 1, _ => exact ok_Album_add_1
    | i + 2, hi => omega) (by decide +kernel)⟩
theorem wk_Album_shutterOf : am_ckW rk_Album_shutterOf = true := by decide +kernel
theorem ok_Album_shutterOf : am_ckM am_ms rk_Album_shutterOf = true := by rw [am_ckM, Bool.and_eq_true]; exact ⟨wk_Album_shutterOf, by decide +kernel⟩
theorem wk_Album_personsOn : am_ckW rk_Album_personsOn = true := by decide +kernel
theorem ok_Album_personsOn : am_ckM am_ms rk_Album_personsOn = true := by rw [am_ckM, Bool.and_eq_true]; exact ⟨wk_Album_personsOn, by decide +kernel⟩
theorem wk_Album_distance : am_ckW rk_Album_distance = true := by decide +kernel
theorem ok_Album_distance : am_ckM am_ms rk_Album_distance = true := by rw [am_ckM, Bool.and_eq_true]; exact ⟨wk_Album_distance, by decide +kernel⟩
theorem wk_Album_setOf : am_ckW rk_Album_setOf = true := by decide +kernel
theorem ok_Album_setOf_0 : ((ck_Album_setOf.drop (40 * 0)).take 40).all (am_ckE am_ms rk_Album_setOf) = true := by decide +kernel
theorem ok_Album_setOf_1 : ((ck_Album_setOf.drop (40 * 1)).take 40).all (am_ckE am_ms rk_Album_setOf) = true := by decide +kernel
theorem ok_Album_setOf : am_ckM am_ms rk_Album_setOf = true := by
  rw [am_ckM, Bool.and_eq_true]
  exact ⟨wk_Album_setOf, am_chunks (n := 40) 2 ck_Album_setOf (fun i hi => by
    match i, hi with
    | 0, _ => exact ok_Album_setOf_0
    | 1, _ => exact ok_Album_setOf_1
    | i + 2, hi => omega) (by decide +kernel)⟩
theorem wk_Album_firstOf : am_ckW rk_Album_firstOf = true := by decide +kernel
theorem ok_Album_firstOf : am_ckM am_ms rk_Album_firstOf = true := by rw [am_ckM, Bool.and_eq_true]; exact ⟨wk_Album_firstOf, by decide +kernel⟩
theorem wk_Album_difference : am_ckW rk_Album_difference = true := by decide +kernel
theorem ok_Album_difference : am_ckM am_ms rk_Album_difference = true := by rw [am_ckM, Bool.and_eq_true]; exact ⟨wk_Album_difference, by decide +kernel⟩
theorem wk_Captions_init : am_ckW rk_Captions_init = true := by decide +kernel
theorem ok_Captions_init : am_ckM am_ms rk_Captions_init = true := by rw [am_ckM, Bool.and_eq_true]; exact ⟨wk_Captions_init, by decide +kernel⟩
theorem wk_Captions_change : am_ckW rk_Captions_change = true := by decide +kernel
theorem ok_Captions_change : am_ckM am_ms rk_Captions_change = true := by rw [am_ckM, Bool.and_eq_true]; exact ⟨wk_Captions_change, by decide +kernel⟩
theorem wk_Captions_picturesWithOneOf : am_ckW rk_Captions_picturesWithOneOf = true := by decide +kernel
theorem ok_Captions_picturesWithOneOf : am_ckM am_ms rk_Captions_picturesWithOneOf = true := by rw [am_ckM, Bool.and_eq_true]; exact ⟨wk_Captions_picturesWithOneOf, by decide +kernel⟩
theorem wk_Captions_recall : am_ckW rk_Captions_recall = true := by decide +kernel
theorem ok_Captions_recall_0 : ((ck_Captions_recall.drop (40 * 0)).take 40).all (am_ckE am_ms rk_Captions_recall) = true := by decide +kernel
theorem ok_Captions_recall_1 : ((ck_Captions_recall.drop (40 * 1)).take 40).all (am_ckE am_ms rk_Captions_recall) = true := by decide +kernel
theorem ok_Captions_recall : am_ckM am_ms rk_Captions_recall = true := by
  rw [am_ckM, Bool.and_eq_true]
  exact ⟨wk_Captions_recall, am_chunks (n := 40) 2 ck_Captions_recall (fun i hi => by
    match i, hi with
    | 0, _ => exact ok_Captions_recall_0
    | 1, _ => exact ok_Captions_recall_1
    | i + 2, hi => omega) (by decide +kernel)⟩
theorem wk_Ledger_init : am_ckW rk_Ledger_init = true := by decide +kernel
theorem ok_Ledger_init : am_ckM am_ms rk_Ledger_init = true := by rw [am_ckM, Bool.and_eq_true]; exact ⟨wk_Ledger_init, by decide +kernel⟩
theorem wk_Ledger_hasRoom : am_ckW rk_Ledger_hasRoom = true := by decide +kernel
theorem ok_Ledger_hasRoom : am_ckM am_ms rk_Ledger_hasRoom = true := by rw [am_ckM, Bool.and_eq_true]; exact ⟨wk_Ledger_hasRoom, by decide +kernel⟩
theorem wk_Ledger_add : am_ckW rk_Ledger_add = true := by decide +kernel
theorem ok_Ledger_add : am_ckM am_ms rk_Ledger_add = true := by rw [am_ckM, Bool.and_eq_true]; exact ⟨wk_Ledger_add, by decide +kernel⟩
theorem wk_Ledger_saleAt : am_ckW rk_Ledger_saleAt = true := by decide +kernel
theorem ok_Ledger_saleAt : am_ckM am_ms rk_Ledger_saleAt = true := by rw [am_ckM, Bool.and_eq_true]; exact ⟨wk_Ledger_saleAt, by decide +kernel⟩
theorem wk_Ledger_firstShutting : am_ckW rk_Ledger_firstShutting = true := by decide +kernel
theorem ok_Ledger_firstShutting : am_ckM am_ms rk_Ledger_firstShutting = true := by rw [am_ckM, Bool.and_eq_true]; exact ⟨wk_Ledger_firstShutting, by decide +kernel⟩
theorem wk_Ledger_firstFor : am_ckW rk_Ledger_firstFor = true := by decide +kernel
theorem ok_Ledger_firstFor_0 : ((ck_Ledger_firstFor.drop (40 * 0)).take 40).all (am_ckE am_ms rk_Ledger_firstFor) = true := by decide +kernel
theorem ok_Ledger_firstFor_1 : ((ck_Ledger_firstFor.drop (40 * 1)).take 40).all (am_ckE am_ms rk_Ledger_firstFor) = true := by decide +kernel
theorem ok_Ledger_firstFor : am_ckM am_ms rk_Ledger_firstFor = true := by
  rw [am_ckM, Bool.and_eq_true]
  exact ⟨wk_Ledger_firstFor, am_chunks (n := 40) 2 ck_Ledger_firstFor (fun i hi => by
    match i, hi with
    | 0, _ => exact ok_Ledger_firstFor_0
    | 1, _ => exact ok_Ledger_firstFor_1
    | i + 2, hi => omega) (by decide +kernel)⟩
theorem wk_Ledger_lead : am_ckW rk_Ledger_lead = true := by decide +kernel
theorem ok_Ledger_lead_0 : ((ck_Ledger_lead.drop (40 * 0)).take 40).all (am_ckE am_ms rk_Ledger_lead) = true := by decide +kernel
theorem ok_Ledger_lead_1 : ((ck_Ledger_lead.drop (40 * 1)).take 40).all (am_ckE am_ms rk_Ledger_lead) = true := by decide +kernel
theorem ok_Ledger_lead : am_ckM am_ms rk_Ledger_lead = true := by
  rw [am_ckM, Bool.and_eq_true]
  exact ⟨wk_Ledger_lead, am_chunks (n := 40) 2 ck_Ledger_lead (fun i hi => by
    match i, hi with
    | 0, _ => exact ok_Ledger_lead_0
    | 1, _ => exact ok_Ledger_lead_1
    | i + 2, hi => omega) (by decide +kernel)⟩
theorem wk_Ledger_ledTo : am_ckW rk_Ledger_ledTo = true := by decide +kernel
theorem ok_Ledger_ledTo : am_ckM am_ms rk_Ledger_ledTo = true := by rw [am_ckM, Bool.and_eq_true]; exact ⟨wk_Ledger_ledTo, by decide +kernel⟩
theorem wk_Ledger_gainOf : am_ckW rk_Ledger_gainOf = true := by decide +kernel
theorem ok_Ledger_gainOf_0 : ((ck_Ledger_gainOf.drop (40 * 0)).take 40).all (am_ckE am_ms rk_Ledger_gainOf) = true := by decide +kernel
theorem ok_Ledger_gainOf_1 : ((ck_Ledger_gainOf.drop (40 * 1)).take 40).all (am_ckE am_ms rk_Ledger_gainOf) = true := by decide +kernel
theorem ok_Ledger_gainOf : am_ckM am_ms rk_Ledger_gainOf = true := by
  rw [am_ckM, Bool.and_eq_true]
  exact ⟨wk_Ledger_gainOf, am_chunks (n := 40) 2 ck_Ledger_gainOf (fun i hi => by
    match i, hi with
    | 0, _ => exact ok_Ledger_gainOf_0
    | 1, _ => exact ok_Ledger_gainOf_1
    | i + 2, hi => omega) (by decide +kernel)⟩
theorem wk_Ledger_gainOfAgency : am_ckW rk_Ledger_gainOfAgency = true := by decide +kernel
theorem ok_Ledger_gainOfAgency : am_ckM am_ms rk_Ledger_gainOfAgency = true := by rw [am_ckM, Bool.and_eq_true]; exact ⟨wk_Ledger_gainOfAgency, by decide +kernel⟩
theorem wk_Log_init : am_ckW rk_Log_init = true := by decide +kernel
theorem ok_Log_init : am_ckM am_ms rk_Log_init = true := by rw [am_ckM, Bool.and_eq_true]; exact ⟨wk_Log_init, by decide +kernel⟩
theorem wk_Log_tell : am_ckW rk_Log_tell = true := by decide +kernel
theorem ok_Log_tell : am_ckM am_ms rk_Log_tell = true := by rw [am_ckM, Bool.and_eq_true]; exact ⟨wk_Log_tell, by decide +kernel⟩
theorem wk_Log_latest : am_ckW rk_Log_latest = true := by decide +kernel
theorem ok_Log_latest : am_ckM am_ms rk_Log_latest = true := by rw [am_ckM, Bool.and_eq_true]; exact ⟨wk_Log_latest, by decide +kernel⟩
theorem wk_Log_toldBy : am_ckW rk_Log_toldBy = true := by decide +kernel
theorem ok_Log_toldBy : am_ckM am_ms rk_Log_toldBy = true := by rw [am_ckM, Bool.and_eq_true]; exact ⟨wk_Log_toldBy, by decide +kernel⟩
theorem wk_Log_thingAt : am_ckW rk_Log_thingAt = true := by decide +kernel
theorem ok_Log_thingAt : am_ckM am_ms rk_Log_thingAt = true := by rw [am_ckM, Bool.and_eq_true]; exact ⟨wk_Log_thingAt, by decide +kernel⟩
theorem wk_Log_valueAt : am_ckW rk_Log_valueAt = true := by decide +kernel
theorem ok_Log_valueAt : am_ckM am_ms rk_Log_valueAt = true := by rw [am_ckM, Bool.and_eq_true]; exact ⟨wk_Log_valueAt, by decide +kernel⟩
theorem wk_Reader_init : am_ckW rk_Reader_init = true := by decide +kernel
theorem ok_Reader_init : am_ckM am_ms rk_Reader_init = true := by rw [am_ckM, Bool.and_eq_true]; exact ⟨wk_Reader_init, by decide +kernel⟩
theorem wk_Reader_readTape : am_ckW rk_Reader_readTape = true := by decide +kernel
theorem ok_Reader_readTape_0 : ((ck_Reader_readTape.drop (40 * 0)).take 40).all (am_ckE am_ms rk_Reader_readTape) = true := by decide +kernel
theorem ok_Reader_readTape_1 : ((ck_Reader_readTape.drop (40 * 1)).take 40).all (am_ckE am_ms rk_Reader_readTape) = true := by decide +kernel
theorem ok_Reader_readTape : am_ckM am_ms rk_Reader_readTape = true := by
  rw [am_ckM, Bool.and_eq_true]
  exact ⟨wk_Reader_readTape, am_chunks (n := 40) 2 ck_Reader_readTape (fun i hi => by
    match i, hi with
    | 0, _ => exact ok_Reader_readTape_0
    | 1, _ => exact ok_Reader_readTape_1
    | i + 2, hi => omega) (by decide +kernel)⟩
theorem wk_Reader_readClause : am_ckW rk_Reader_readClause = true := by decide +kernel
theorem ok_Reader_readClause : am_ckM am_ms rk_Reader_readClause = true := by rw [am_ckM, Bool.and_eq_true]; exact ⟨wk_Reader_readClause, by decide +kernel⟩
theorem wk_Reader_readNumbers : am_ckW rk_Reader_readNumbers = true := by decide +kernel
theorem ok_Reader_readNumbers_0 : ((ck_Reader_readNumbers.drop (40 * 0)).take 40).all (am_ckE am_ms rk_Reader_readNumbers) = true := by decide +kernel
theorem ok_Reader_readNumbers_1 : ((ck_Reader_readNumbers.drop (40 * 1)).take 40).all (am_ckE am_ms rk_Reader_readNumbers) = true := by decide +kernel
theorem ok_Reader_readNumbers : am_ckM am_ms rk_Reader_readNumbers = true := by
  rw [am_ckM, Bool.and_eq_true]
  exact ⟨wk_Reader_readNumbers, am_chunks (n := 40) 2 ck_Reader_readNumbers (fun i hi => by
    match i, hi with
    | 0, _ => exact ok_Reader_readNumbers_0
    | 1, _ => exact ok_Reader_readNumbers_1
    | i + 2, hi => omega) (by decide +kernel)⟩
theorem wk_Reader_take : am_ckW rk_Reader_take = true := by decide +kernel
theorem ok_Reader_take : am_ckM am_ms rk_Reader_take = true := by rw [am_ckM, Bool.and_eq_true]; exact ⟨wk_Reader_take, by decide +kernel⟩
theorem wk_Reader_takeLand : am_ckW rk_Reader_takeLand = true := by decide +kernel
theorem ok_Reader_takeLand : am_ckM am_ms rk_Reader_takeLand = true := by rw [am_ckM, Bool.and_eq_true]; exact ⟨wk_Reader_takeLand, by decide +kernel⟩
theorem wk_Reader_takeUse : am_ckW rk_Reader_takeUse = true := by decide +kernel
theorem ok_Reader_takeUse : am_ckM am_ms rk_Reader_takeUse = true := by rw [am_ckM, Bool.and_eq_true]; exact ⟨wk_Reader_takeUse, by decide +kernel⟩
theorem wk_Reader_takeFrom : am_ckW rk_Reader_takeFrom = true := by decide +kernel
theorem ok_Reader_takeFrom : am_ckM am_ms rk_Reader_takeFrom = true := by rw [am_ckM, Bool.and_eq_true]; exact ⟨wk_Reader_takeFrom, by decide +kernel⟩
theorem wk_Reader_takeTo : am_ckW rk_Reader_takeTo = true := by decide +kernel
theorem ok_Reader_takeTo : am_ckM am_ms rk_Reader_takeTo = true := by rw [am_ckM, Bool.and_eq_true]; exact ⟨wk_Reader_takeTo, by decide +kernel⟩
theorem wk_Reader_takeMost : am_ckW rk_Reader_takeMost = true := by decide +kernel
theorem ok_Reader_takeMost : am_ckM am_ms rk_Reader_takeMost = true := by rw [am_ckM, Bool.and_eq_true]; exact ⟨wk_Reader_takeMost, by decide +kernel⟩
theorem wk_Reader_takeShunned : am_ckW rk_Reader_takeShunned = true := by decide +kernel
theorem ok_Reader_takeShunned : am_ckM am_ms rk_Reader_takeShunned = true := by rw [am_ckM, Bool.and_eq_true]; exact ⟨wk_Reader_takeShunned, by decide +kernel⟩
theorem wk_Reader_fail : am_ckW rk_Reader_fail = true := by decide +kernel
theorem ok_Reader_fail : am_ckM am_ms rk_Reader_fail = true := by rw [am_ckM, Bool.and_eq_true]; exact ⟨wk_Reader_fail, by decide +kernel⟩
theorem wk_Reader_clauseHere : am_ckW rk_Reader_clauseHere = true := by decide +kernel
theorem ok_Reader_clauseHere : am_ckM am_ms rk_Reader_clauseHere = true := by rw [am_ckM, Bool.and_eq_true]; exact ⟨wk_Reader_clauseHere, by decide +kernel⟩
theorem wk_Reader_spells : am_ckW rk_Reader_spells = true := by decide +kernel
theorem ok_Reader_spells : am_ckM am_ms rk_Reader_spells = true := by rw [am_ckM, Bool.and_eq_true]; exact ⟨wk_Reader_spells, by decide +kernel⟩
theorem wk_Reader_step : am_ckW rk_Reader_step = true := by decide +kernel
theorem ok_Reader_step_0 : ((ck_Reader_step.drop (40 * 0)).take 40).all (am_ckE am_ms rk_Reader_step) = true := by decide +kernel
theorem ok_Reader_step_1 : ((ck_Reader_step.drop (40 * 1)).take 40).all (am_ckE am_ms rk_Reader_step) = true := by decide +kernel
theorem ok_Reader_step : am_ckM am_ms rk_Reader_step = true := by
  rw [am_ckM, Bool.and_eq_true]
  exact ⟨wk_Reader_step, am_chunks (n := 40) 2 ck_Reader_step (fun i hi => by
    match i, hi with
    | 0, _ => exact ok_Reader_step_0
    | 1, _ => exact ok_Reader_step_1
    | i + 2, hi => omega) (by decide +kernel)⟩
theorem wk_Reader_stepOverLetters : am_ckW rk_Reader_stepOverLetters = true := by decide +kernel
theorem ok_Reader_stepOverLetters : am_ckM am_ms rk_Reader_stepOverLetters = true := by rw [am_ckM, Bool.and_eq_true]; exact ⟨wk_Reader_stepOverLetters, by decide +kernel⟩
theorem wk_Reader_stepOverDigits : am_ckW rk_Reader_stepOverDigits = true := by decide +kernel
theorem ok_Reader_stepOverDigits : am_ckM am_ms rk_Reader_stepOverDigits = true := by rw [am_ckM, Bool.and_eq_true]; exact ⟨wk_Reader_stepOverDigits, by decide +kernel⟩
theorem wk_Reader_isLetter : am_ckW rk_Reader_isLetter = true := by decide +kernel
theorem ok_Reader_isLetter : am_ckM am_ms rk_Reader_isLetter = true := by rw [am_ckM, Bool.and_eq_true]; exact ⟨wk_Reader_isLetter, by decide +kernel⟩
theorem wk_Reader_isDigit : am_ckW rk_Reader_isDigit = true := by decide +kernel
theorem ok_Reader_isDigit : am_ckM am_ms rk_Reader_isDigit = true := by rw [am_ckM, Bool.and_eq_true]; exact ⟨wk_Reader_isDigit, by decide +kernel⟩
theorem wk_Sale_init : am_ckW rk_Sale_init = true := by decide +kernel
theorem ok_Sale_init : am_ckM am_ms rk_Sale_init = true := by rw [am_ckM, Bool.and_eq_true]; exact ⟨wk_Sale_init, by decide +kernel⟩
theorem wk_Sale_tellOf : am_ckW rk_Sale_tellOf = true := by decide +kernel
theorem ok_Sale_tellOf_0 : ((ck_Sale_tellOf.drop (40 * 0)).take 40).all (am_ckE am_ms rk_Sale_tellOf) = true := by decide +kernel
theorem ok_Sale_tellOf_1 : ((ck_Sale_tellOf.drop (40 * 1)).take 40).all (am_ckE am_ms rk_Sale_tellOf) = true := by decide +kernel
theorem ok_Sale_tellOf : am_ckM am_ms rk_Sale_tellOf = true := by
  rw [am_ckM, Bool.and_eq_true]
  exact ⟨wk_Sale_tellOf, am_chunks (n := 40) 2 ck_Sale_tellOf (fun i hi => by
    match i, hi with
    | 0, _ => exact ok_Sale_tellOf_0
    | 1, _ => exact ok_Sale_tellOf_1
    | i + 2, hi => omega) (by decide +kernel)⟩
theorem wk_Shelf_init : am_ckW rk_Shelf_init = true := by decide +kernel
theorem ok_Shelf_init : am_ckM am_ms rk_Shelf_init = true := by rw [am_ckM, Bool.and_eq_true]; exact ⟨wk_Shelf_init, by decide +kernel⟩
theorem wk_Shelf_hasRoom : am_ckW rk_Shelf_hasRoom = true := by decide +kernel
theorem ok_Shelf_hasRoom : am_ckM am_ms rk_Shelf_hasRoom = true := by rw [am_ckM, Bool.and_eq_true]; exact ⟨wk_Shelf_hasRoom, by decide +kernel⟩
theorem wk_Shelf_add : am_ckW rk_Shelf_add = true := by decide +kernel
theorem ok_Shelf_add : am_ckM am_ms rk_Shelf_add = true := by rw [am_ckM, Bool.and_eq_true]; exact ⟨wk_Shelf_add, by decide +kernel⟩
theorem wk_Shelf_textAt : am_ckW rk_Shelf_textAt = true := by decide +kernel
theorem ok_Shelf_textAt : am_ckM am_ms rk_Shelf_textAt = true := by rw [am_ckM, Bool.and_eq_true]; exact ⟨wk_Shelf_textAt, by decide +kernel⟩
theorem wk_Tape_init : am_ckW rk_Tape_init = true := by decide +kernel
theorem ok_Tape_init : am_ckM am_ms rk_Tape_init = true := by rw [am_ckM, Bool.and_eq_true]; exact ⟨wk_Tape_init, by decide +kernel⟩
theorem wk_Tape_append : am_ckW rk_Tape_append = true := by decide +kernel
theorem ok_Tape_append : am_ckM am_ms rk_Tape_append = true := by rw [am_ckM, Bool.and_eq_true]; exact ⟨wk_Tape_append, by decide +kernel⟩
theorem wk_Tape_byteAt : am_ckW rk_Tape_byteAt = true := by decide +kernel
theorem ok_Tape_byteAt : am_ckM am_ms rk_Tape_byteAt = true := by rw [am_ckM, Bool.and_eq_true]; exact ⟨wk_Tape_byteAt, by decide +kernel⟩
theorem wk_Terms_init : am_ckW rk_Terms_init = true := by decide +kernel
theorem ok_Terms_init : am_ckM am_ms rk_Terms_init = true := by rw [am_ckM, Bool.and_eq_true]; exact ⟨wk_Terms_init, by decide +kernel⟩
theorem wk_Terms_allow : am_ckW rk_Terms_allow = true := by decide +kernel
theorem ok_Terms_allow : am_ckM am_ms rk_Terms_allow = true := by rw [am_ckM, Bool.and_eq_true]; exact ⟨wk_Terms_allow, by decide +kernel⟩
theorem wk_WordTree_init : am_ckW rk_WordTree_init = true := by decide +kernel
theorem ok_WordTree_init : am_ckM am_ms rk_WordTree_init = true := by rw [am_ckM, Bool.and_eq_true]; exact ⟨wk_WordTree_init, by decide +kernel⟩
theorem wk_WordTree_isWord : am_ckW rk_WordTree_isWord = true := by decide +kernel
theorem ok_WordTree_isWord : am_ckM am_ms rk_WordTree_isWord = true := by rw [am_ckM, Bool.and_eq_true]; exact ⟨wk_WordTree_isWord, by decide +kernel⟩
theorem wk_WordTree_add : am_ckW rk_WordTree_add = true := by decide +kernel
theorem ok_WordTree_add : am_ckM am_ms rk_WordTree_add = true := by rw [am_ckM, Bool.and_eq_true]; exact ⟨wk_WordTree_add, by decide +kernel⟩
theorem wk_WordTree_move : am_ckW rk_WordTree_move = true := by decide +kernel
theorem ok_WordTree_move : am_ckM am_ms rk_WordTree_move = true := by rw [am_ckM, Bool.and_eq_true]; exact ⟨wk_WordTree_move, by decide +kernel⟩
theorem wk_WordTree_parentOf : am_ckW rk_WordTree_parentOf = true := by decide +kernel
theorem ok_WordTree_parentOf : am_ckM am_ms rk_WordTree_parentOf = true := by rw [am_ckM, Bool.and_eq_true]; exact ⟨wk_WordTree_parentOf, by decide +kernel⟩
theorem wk_WordTree_chainOf : am_ckW rk_WordTree_chainOf = true := by decide +kernel
theorem ok_WordTree_chainOf : am_ckM am_ms rk_WordTree_chainOf = true := by rw [am_ckM, Bool.and_eq_true]; exact ⟨wk_WordTree_chainOf, by decide +kernel⟩
theorem wk_WordTree_treeOf : am_ckW rk_WordTree_treeOf = true := by decide +kernel
theorem ok_WordTree_treeOf : am_ckM am_ms rk_WordTree_treeOf = true := by rw [am_ckM, Bool.and_eq_true]; exact ⟨wk_WordTree_treeOf, by decide +kernel⟩
theorem wk_WordTree_canHold : am_ckW rk_WordTree_canHold = true := by decide +kernel
theorem ok_WordTree_canHold : am_ckM am_ms rk_WordTree_canHold = true := by rw [am_ckM, Bool.and_eq_true]; exact ⟨wk_WordTree_canHold, by decide +kernel⟩
theorem wk_WordTree_recall : am_ckW rk_WordTree_recall = true := by decide +kernel
theorem ok_WordTree_recall_0 : ((ck_WordTree_recall.drop (40 * 0)).take 40).all (am_ckE am_ms rk_WordTree_recall) = true := by decide +kernel
theorem ok_WordTree_recall_1 : ((ck_WordTree_recall.drop (40 * 1)).take 40).all (am_ckE am_ms rk_WordTree_recall) = true := by decide +kernel
theorem ok_WordTree_recall : am_ckM am_ms rk_WordTree_recall = true := by
  rw [am_ckM, Bool.and_eq_true]
  exact ⟨wk_WordTree_recall, am_chunks (n := 40) 2 ck_WordTree_recall (fun i hi => by
    match i, hi with
    | 0, _ => exact ok_WordTree_recall_0
    | 1, _ => exact ok_WordTree_recall_1
    | i + 2, hi => omega) (by decide +kernel)⟩
theorem wk_WordTree_climb : am_ckW rk_WordTree_climb = true := by decide +kernel
theorem ok_WordTree_climb : am_ckM am_ms rk_WordTree_climb = true := by rw [am_ckM, Bool.and_eq_true]; exact ⟨wk_WordTree_climb, by decide +kernel⟩
theorem wk_A_init : am_ckW rk_A_init = true := by decide +kernel
theorem ok_A_init_0 : ((ck_A_init.drop (40 * 0)).take 40).all (am_ckE am_ms rk_A_init) = true := by decide +kernel
theorem ok_A_init_1 : ((ck_A_init.drop (40 * 1)).take 40).all (am_ckE am_ms rk_A_init) = true := by decide +kernel
theorem ok_A_init : am_ckM am_ms rk_A_init = true := by
  rw [am_ckM, Bool.and_eq_true]
  exact ⟨wk_A_init, am_chunks (n := 40) 2 ck_A_init (fun i hi => by
    match i, hi with
    | 0, _ => exact ok_A_init_0
    | 1, _ => exact ok_A_init_1
    | i + 2, hi => omega) (by decide +kernel)⟩
theorem wk_A_minute : am_ckW rk_A_minute = true := by decide +kernel
theorem ok_A_minute : am_ckM am_ms rk_A_minute = true := by rw [am_ckM, Bool.and_eq_true]; exact ⟨wk_A_minute, by decide +kernel⟩
theorem wk_A_word : am_ckW rk_A_word = true := by decide +kernel
theorem ok_A_word : am_ckM am_ms rk_A_word = true := by rw [am_ckM, Bool.and_eq_true]; exact ⟨wk_A_word, by decide +kernel⟩
theorem wk_A_put : am_ckW rk_A_put = true := by decide +kernel
theorem ok_A_put : am_ckM am_ms rk_A_put = true := by rw [am_ckM, Bool.and_eq_true]; exact ⟨wk_A_put, by decide +kernel⟩
theorem wk_A_within : am_ckW rk_A_within = true := by decide +kernel
theorem ok_A_within : am_ckM am_ms rk_A_within = true := by rw [am_ckM, Bool.and_eq_true]; exact ⟨wk_A_within, by decide +kernel⟩
theorem wk_A_picture : am_ckW rk_A_picture = true := by decide +kernel
theorem ok_A_picture : am_ckM am_ms rk_A_picture = true := by rw [am_ckM, Bool.and_eq_true]; exact ⟨wk_A_picture, by decide +kernel⟩
theorem wk_A_caption : am_ckW rk_A_caption = true := by decide +kernel
theorem ok_A_caption : am_ckM am_ms rk_A_caption = true := by rw [am_ckM, Bool.and_eq_true]; exact ⟨wk_A_caption, by decide +kernel⟩
theorem wk_A_has : am_ckW rk_A_has = true := by decide +kernel
theorem ok_A_has : am_ckM am_ms rk_A_has = true := by rw [am_ckM, Bool.and_eq_true]; exact ⟨wk_A_has, by decide +kernel⟩
theorem wk_A_search : am_ckW rk_A_search = true := by decide +kernel
theorem ok_A_search : am_ckM am_ms rk_A_search = true := by rw [am_ckM, Bool.and_eq_true]; exact ⟨wk_A_search, by decide +kernel⟩
theorem wk_A_found : am_ckW rk_A_found = true := by decide +kernel
theorem ok_A_found : am_ckM am_ms rk_A_found = true := by rw [am_ckM, Bool.and_eq_true]; exact ⟨wk_A_found, by decide +kernel⟩
theorem wk_A_far : am_ckW rk_A_far = true := by decide +kernel
theorem ok_A_far : am_ckM am_ms rk_A_far = true := by rw [am_ckM, Bool.and_eq_true]; exact ⟨wk_A_far, by decide +kernel⟩
theorem wk_A_limit : am_ckW rk_A_limit = true := by decide +kernel
theorem ok_A_limit : am_ckM am_ms rk_A_limit = true := by rw [am_ckM, Bool.and_eq_true]; exact ⟨wk_A_limit, by decide +kernel⟩
theorem wk_A_set : am_ckW rk_A_set = true := by decide +kernel
theorem ok_A_set : am_ckM am_ms rk_A_set = true := by rw [am_ckM, Bool.and_eq_true]; exact ⟨wk_A_set, by decide +kernel⟩
theorem wk_A_leave : am_ckW rk_A_leave = true := by decide +kernel
theorem ok_A_leave : am_ckM am_ms rk_A_leave = true := by rw [am_ckM, Bool.and_eq_true]; exact ⟨wk_A_leave, by decide +kernel⟩
theorem wk_A_embargo : am_ckW rk_A_embargo = true := by decide +kernel
theorem ok_A_embargo : am_ckM am_ms rk_A_embargo = true := by rw [am_ckM, Bool.and_eq_true]; exact ⟨wk_A_embargo, by decide +kernel⟩
theorem wk_A_known : am_ckW rk_A_known = true := by decide +kernel
theorem ok_A_known : am_ckM am_ms rk_A_known = true := by rw [am_ckM, Bool.and_eq_true]; exact ⟨wk_A_known, by decide +kernel⟩
theorem wk_A_feed : am_ckW rk_A_feed = true := by decide +kernel
theorem ok_A_feed : am_ckM am_ms rk_A_feed = true := by rw [am_ckM, Bool.and_eq_true]; exact ⟨wk_A_feed, by decide +kernel⟩
theorem wk_A_end : am_ckW rk_A_end = true := by decide +kernel
theorem ok_A_end : am_ckM am_ms rk_A_end = true := by rw [am_ckM, Bool.and_eq_true]; exact ⟨wk_A_end, by decide +kernel⟩
theorem wk_A_text : am_ckW rk_A_text = true := by decide +kernel
theorem ok_A_text : am_ckM am_ms rk_A_text = true := by rw [am_ckM, Bool.and_eq_true]; exact ⟨wk_A_text, by decide +kernel⟩
theorem wk_A_fault : am_ckW rk_A_fault = true := by decide +kernel
theorem ok_A_fault : am_ckM am_ms rk_A_fault = true := by rw [am_ckM, Bool.and_eq_true]; exact ⟨wk_A_fault, by decide +kernel⟩
theorem wk_A_why : am_ckW rk_A_why = true := by decide +kernel
theorem ok_A_why_0 : ((ck_A_why.drop (40 * 0)).take 40).all (am_ckE am_ms rk_A_why) = true := by decide +kernel
theorem ok_A_why_1 : ((ck_A_why.drop (40 * 1)).take 40).all (am_ckE am_ms rk_A_why) = true := by decide +kernel
theorem ok_A_why : am_ckM am_ms rk_A_why = true := by
  rw [am_ckM, Bool.and_eq_true]
  exact ⟨wk_A_why, am_chunks (n := 40) 2 ck_A_why (fun i hi => by
    match i, hi with
    | 0, _ => exact ok_A_why_0
    | 1, _ => exact ok_A_why_1
    | i + 2, hi => omega) (by decide +kernel)⟩
theorem wk_A_by : am_ckW rk_A_by = true := by decide +kernel
theorem ok_A_by : am_ckM am_ms rk_A_by = true := by rw [am_ckM, Bool.and_eq_true]; exact ⟨wk_A_by, by decide +kernel⟩
theorem wk_A_rate : am_ckW rk_A_rate = true := by decide +kernel
theorem ok_A_rate : am_ckM am_ms rk_A_rate = true := by rw [am_ckM, Bool.and_eq_true]; exact ⟨wk_A_rate, by decide +kernel⟩
theorem wk_A_sale : am_ckW rk_A_sale = true := by decide +kernel
theorem ok_A_sale_0 : ((ck_A_sale.drop (40 * 0)).take 40).all (am_ckE am_ms rk_A_sale) = true := by decide +kernel
theorem ok_A_sale_1 : ((ck_A_sale.drop (40 * 1)).take 40).all (am_ckE am_ms rk_A_sale) = true := by decide +kernel
theorem ok_A_sale : am_ckM am_ms rk_A_sale = true := by
  rw [am_ckM, Bool.and_eq_true]
  exact ⟨wk_A_sale, am_chunks (n := 40) 2 ck_A_sale (fun i hi => by
    match i, hi with
    | 0, _ => exact ok_A_sale_0
    | 1, _ => exact ok_A_sale_1
    | i + 2, hi => omega) (by decide +kernel)⟩
theorem wk_A_strike : am_ckW rk_A_strike = true := by decide +kernel
theorem ok_A_strike : am_ckM am_ms rk_A_strike = true := by rw [am_ckM, Bool.and_eq_true]; exact ⟨wk_A_strike, by decide +kernel⟩
theorem wk_A_saleOf : am_ckW rk_A_saleOf = true := by decide +kernel
theorem ok_A_saleOf : am_ckM am_ms rk_A_saleOf = true := by rw [am_ckM, Bool.and_eq_true]; exact ⟨wk_A_saleOf, by decide +kernel⟩
theorem wk_A_got : am_ckW rk_A_got = true := by decide +kernel
theorem ok_A_got : am_ckM am_ms rk_A_got = true := by rw [am_ckM, Bool.and_eq_true]; exact ⟨wk_A_got, by decide +kernel⟩
theorem wk_A_print : am_ckW rk_A_print = true := by decide +kernel
theorem ok_A_print : am_ckM am_ms rk_A_print = true := by rw [am_ckM, Bool.and_eq_true]; exact ⟨wk_A_print, by decide +kernel⟩
theorem wk_A_printed : am_ckW rk_A_printed = true := by decide +kernel
theorem ok_A_printed : am_ckM am_ms rk_A_printed = true := by rw [am_ckM, Bool.and_eq_true]; exact ⟨wk_A_printed, by decide +kernel⟩
theorem wk_A_about : am_ckW rk_A_about = true := by decide +kernel
theorem ok_A_about : am_ckM am_ms rk_A_about = true := by rw [am_ckM, Bool.and_eq_true]; exact ⟨wk_A_about, by decide +kernel⟩
theorem wk_A_isMinute : am_ckW rk_A_isMinute = true := by decide +kernel
theorem ok_A_isMinute : am_ckM am_ms rk_A_isMinute = true := by rw [am_ckM, Bool.and_eq_true]; exact ⟨wk_A_isMinute, by decide +kernel⟩
theorem wk_A_isPerson : am_ckW rk_A_isPerson = true := by decide +kernel
theorem ok_A_isPerson : am_ckM am_ms rk_A_isPerson = true := by rw [am_ckM, Bool.and_eq_true]; exact ⟨wk_A_isPerson, by decide +kernel⟩
theorem wk_A_isLand : am_ckW rk_A_isLand = true := by decide +kernel
theorem ok_A_isLand : am_ckM am_ms rk_A_isLand = true := by rw [am_ckM, Bool.and_eq_true]; exact ⟨wk_A_isLand, by decide +kernel⟩
theorem wk_A_isUse : am_ckW rk_A_isUse = true := by decide +kernel
theorem ok_A_isUse : am_ckM am_ms rk_A_isUse = true := by rw [am_ckM, Bool.and_eq_true]; exact ⟨wk_A_isUse, by decide +kernel⟩
theorem wk_A_isSize : am_ckW rk_A_isSize = true := by decide +kernel
theorem ok_A_isSize : am_ckM am_ms rk_A_isSize = true := by rw [am_ckM, Bool.and_eq_true]; exact ⟨wk_A_isSize, by decide +kernel⟩
theorem wk_A_holds : am_ckW rk_A_holds = true := by decide +kernel
theorem ok_A_holds : am_ckM am_ms rk_A_holds = true := by rw [am_ckM, Bool.and_eq_true]; exact ⟨wk_A_holds, by decide +kernel⟩
theorem wk_A_isPast : am_ckW rk_A_isPast = true := by decide +kernel
theorem ok_A_isPast : am_ckM am_ms rk_A_isPast = true := by rw [am_ckM, Bool.and_eq_true]; exact ⟨wk_A_isPast, by decide +kernel⟩
theorem wk_A_canBeUsed : am_ckW rk_A_canBeUsed = true := by decide +kernel
theorem ok_A_canBeUsed : am_ckM am_ms rk_A_canBeUsed = true := by rw [am_ckM, Bool.and_eq_true]; exact ⟨wk_A_canBeUsed, by decide +kernel⟩
theorem wk_A_picturesWith : am_ckW rk_A_picturesWith = true := by decide +kernel
theorem ok_A_picturesWith : am_ckM am_ms rk_A_picturesWith = true := by rw [am_ckM, Bool.and_eq_true]; exact ⟨wk_A_picturesWith, by decide +kernel⟩
theorem wk_A_textAgainst : am_ckW rk_A_textAgainst = true := by decide +kernel
theorem ok_A_textAgainst : am_ckM am_ms rk_A_textAgainst = true := by rw [am_ckM, Bool.and_eq_true]; exact ⟨wk_A_textAgainst, by decide +kernel⟩
theorem wk_A_personAgainst : am_ckW rk_A_personAgainst = true := by decide +kernel
theorem ok_A_personAgainst : am_ckM am_ms rk_A_personAgainst = true := by rw [am_ckM, Bool.and_eq_true]; exact ⟨wk_A_personAgainst, by decide +kernel⟩
theorem wk_A_saleAgainst : am_ckW rk_A_saleAgainst = true := by decide +kernel
theorem ok_A_saleAgainst : am_ckM am_ms rk_A_saleAgainst = true := by rw [am_ckM, Bool.and_eq_true]; exact ⟨wk_A_saleAgainst, by decide +kernel⟩
theorem wk_A_split : am_ckW rk_A_split = true := by decide +kernel
theorem ok_A_split_0 : ((ck_A_split.drop (40 * 0)).take 40).all (am_ckE am_ms rk_A_split) = true := by decide +kernel
theorem ok_A_split_1 : ((ck_A_split.drop (40 * 1)).take 40).all (am_ckE am_ms rk_A_split) = true := by decide +kernel
theorem ok_A_split : am_ckM am_ms rk_A_split = true := by
  rw [am_ckM, Bool.and_eq_true]
  exact ⟨wk_A_split, am_chunks (n := 40) 2 ck_A_split (fun i hi => by
    match i, hi with
    | 0, _ => exact ok_A_split_0
    | 1, _ => exact ok_A_split_1
    | i + 2, hi => omega) (by decide +kernel)⟩
