/-! names and fields of the classes, out of the printed names -/
def RX0 : String := "PictureAgency$Album"
def TX0 : u_T := fun k => match k with
  | 0 => ("PictureAgency$Album", "shutters", "[I", true)
  | 1 => ("PictureAgency$Album", "taken", "[I", true)
  | 2 => ("PictureAgency$Album", "persons", "[I", true)
  | 3 => ("PictureAgency$Album", "grids", "[J", true)
  | 4 => ("PictureAgency$Album", "distances", "[I", true)
  | 5 => ("PictureAgency$Album", "chain", "[I", true)
  | 6 => ("PictureAgency$Album", "count", "I", false)
  | _ => ("PictureAgency$Album", "likeness", "I", false)
def tyX0 : Nat → FieldType := fun k => match k with
  | 0 => .array .int
  | 1 => .array .int
  | 2 => .array .int
  | 3 => .array .long
  | 4 => .array .int
  | 5 => .array .int
  | 6 => .int
  | _ => .int
theorem nmX0 : ∀ a, a < 8 → ∀ b, b < 8 → a ≠ b → (TX0 a).2.1 ≠ (TX0 b).2.1 := by decide +kernel
theorem tyX0_ok : ∀ k, k < 8 → parseFieldDescriptor (TX0 k).2.2.1 = some (tyX0 k) := by decide +kernel
def RX1 : String := "PictureAgency$Captions"
def TX1 : u_T := fun k => match k with
  | 0 => ("PictureAgency$Captions", "changes", "LPictureAgency$Log;", true)
  | _ => ("PictureAgency$Captions", "recalled", "[J", true)
def tyX1 : Nat → FieldType := fun k => match k with
  | 0 => .object "PictureAgency$Log"
  | _ => .array .long
theorem nmX1 : ∀ a, a < 2 → ∀ b, b < 2 → a ≠ b → (TX1 a).2.1 ≠ (TX1 b).2.1 := by decide +kernel
theorem tyX1_ok : ∀ k, k < 2 → parseFieldDescriptor (TX1 k).2.2.1 = some (tyX1 k) := by decide +kernel
def RX2 : String := "PictureAgency$Ledger"
def TX2 : u_T := fun k => match k with
  | 0 => ("PictureAgency$Ledger", "sales", "[LPictureAgency$Sale;", true)
  | 1 => ("PictureAgency$Ledger", "printedSales", "[I", true)
  | 2 => ("PictureAgency$Ledger", "count", "I", false)
  | 3 => ("PictureAgency$Ledger", "printings", "I", false)
  | _ => ("PictureAgency$Ledger", "claims", "I", false)
def tyX2 : Nat → FieldType := fun k => match k with
  | 0 => .array (.object "PictureAgency$Sale")
  | 1 => .array .int
  | 2 => .int
  | 3 => .int
  | _ => .int
theorem nmX2 : ∀ a, a < 5 → ∀ b, b < 5 → a ≠ b → (TX2 a).2.1 ≠ (TX2 b).2.1 := by decide +kernel
theorem tyX2_ok : ∀ k, k < 5 → parseFieldDescriptor (TX2 k).2.2.1 = some (tyX2 k) := by decide +kernel
def RX3 : String := "PictureAgency$Log"
def TX3 : u_T := fun k => match k with
  | 0 => ("PictureAgency$Log", "minutes", "[I", true)
  | 1 => ("PictureAgency$Log", "things", "[I", true)
  | 2 => ("PictureAgency$Log", "values", "[I", true)
  | _ => ("PictureAgency$Log", "count", "I", false)
def tyX3 : Nat → FieldType := fun k => match k with
  | 0 => .array .int
  | 1 => .array .int
  | 2 => .array .int
  | _ => .int
theorem nmX3 : ∀ a, a < 4 → ∀ b, b < 4 → a ≠ b → (TX3 a).2.1 ≠ (TX3 b).2.1 := by decide +kernel
theorem tyX3_ok : ∀ k, k < 4 → parseFieldDescriptor (TX3 k).2.2.1 = some (tyX3 k) := by decide +kernel
def RX4 : String := "PictureAgency$Reader"
def TX4 : u_T := fun k => match k with
  | 0 => ("PictureAgency$Reader", "tape", "LPictureAgency$Tape;", true)
  | 1 => ("PictureAgency$Reader", "hasRead", "Z", false)
  | 2 => ("PictureAgency$Reader", "failure", "I", false)
  | 3 => ("PictureAgency$Reader", "place", "I", false)
  | 4 => ("PictureAgency$Reader", "terms", "LPictureAgency$Terms;", false)
  | 5 => ("PictureAgency$Reader", "words", "I", false)
  | 6 => ("PictureAgency$Reader", "seen", "I", false)
  | 7 => ("PictureAgency$Reader", "kind", "I", false)
  | 8 => ("PictureAgency$Reader", "start", "I", false)
  | 9 => ("PictureAgency$Reader", "behind", "I", false)
  | _ => ("PictureAgency$Reader", "number", "I", false)
def tyX4 : Nat → FieldType := fun k => match k with
  | 0 => .object "PictureAgency$Tape"
  | 1 => .boolean
  | 2 => .int
  | 3 => .int
  | 4 => .object "PictureAgency$Terms"
  | 5 => .int
  | 6 => .int
  | 7 => .int
  | 8 => .int
  | 9 => .int
  | _ => .int
theorem nmX4 : ∀ a, a < 11 → ∀ b, b < 11 → a ≠ b → (TX4 a).2.1 ≠ (TX4 b).2.1 := by decide +kernel
theorem tyX4_ok : ∀ k, k < 11 → parseFieldDescriptor (TX4 k).2.2.1 = some (tyX4 k) := by decide +kernel
def RX5 : String := "PictureAgency$Sale"
def TX5 : u_T := fun k => match k with
  | 0 => ("PictureAgency$Sale", "picture", "I", true)
  | 1 => ("PictureAgency$Sale", "land", "I", true)
  | 2 => ("PictureAgency$Sale", "use", "I", true)
  | 3 => ("PictureAgency$Sale", "size", "I", true)
  | 4 => ("PictureAgency$Sale", "minute", "I", true)
  | 5 => ("PictureAgency$Sale", "until", "I", true)
  | 6 => ("PictureAgency$Sale", "price", "I", false)
  | 7 => ("PictureAgency$Sale", "shutter", "I", false)
  | 8 => ("PictureAgency$Sale", "shutterGot", "I", false)
  | 9 => ("PictureAgency$Sale", "firstShutter", "I", false)
  | 10 => ("PictureAgency$Sale", "firstGot", "I", false)
  | 11 => ("PictureAgency$Sale", "struck", "Z", false)
  | _ => ("PictureAgency$Sale", "printing", "I", false)
def tyX5 : Nat → FieldType := fun k => match k with
  | 0 => .int
  | 1 => .int
  | 2 => .int
  | 3 => .int
  | 4 => .int
  | 5 => .int
  | 6 => .int
  | 7 => .int
  | 8 => .int
  | 9 => .int
  | 10 => .int
  | 11 => .boolean
  | _ => .int
theorem nmX5 : ∀ a, a < 13 → ∀ b, b < 13 → a ≠ b → (TX5 a).2.1 ≠ (TX5 b).2.1 := by decide +kernel
theorem tyX5_ok : ∀ k, k < 13 → parseFieldDescriptor (TX5 k).2.2.1 = some (tyX5 k) := by decide +kernel
def RX6 : String := "PictureAgency$Shelf"
def TX6 : u_T := fun k => match k with
  | 0 => ("PictureAgency$Shelf", "texts", "[LPictureAgency$Terms;", true)
  | _ => ("PictureAgency$Shelf", "counts", "[I", true)
def tyX6 : Nat → FieldType := fun k => match k with
  | 0 => .array (.object "PictureAgency$Terms")
  | _ => .array .int
theorem nmX6 : ∀ a, a < 2 → ∀ b, b < 2 → a ≠ b → (TX6 a).2.1 ≠ (TX6 b).2.1 := by decide +kernel
theorem tyX6_ok : ∀ k, k < 2 → parseFieldDescriptor (TX6 k).2.2.1 = some (tyX6 k) := by decide +kernel
def RX7 : String := "PictureAgency$Tape"
def TX7 : u_T := fun k => match k with
  | 0 => ("PictureAgency$Tape", "bytes", "[I", true)
  | _ => ("PictureAgency$Tape", "length", "I", false)
def tyX7 : Nat → FieldType := fun k => match k with
  | 0 => .array .int
  | _ => .int
theorem nmX7 : ∀ a, a < 2 → ∀ b, b < 2 → a ≠ b → (TX7 a).2.1 ≠ (TX7 b).2.1 := by decide +kernel
theorem tyX7_ok : ∀ k, k < 2 → parseFieldDescriptor (TX7 k).2.2.1 = some (tyX7 k) := by decide +kernel
def RX8 : String := "PictureAgency$Terms"
def TX8 : u_T := fun k => match k with
  | 0 => ("PictureAgency$Terms", "lands", "J", false)
  | 1 => ("PictureAgency$Terms", "uses", "J", false)
  | 2 => ("PictureAgency$Terms", "from", "I", false)
  | 3 => ("PictureAgency$Terms", "to", "I", false)
  | 4 => ("PictureAgency$Terms", "mostSize", "I", false)
  | _ => ("PictureAgency$Terms", "shunned", "J", false)
def tyX8 : Nat → FieldType := fun k => match k with
  | 0 => .long
  | 1 => .long
  | 2 => .int
  | 3 => .int
  | 4 => .int
  | _ => .long
theorem nmX8 : ∀ a, a < 6 → ∀ b, b < 6 → a ≠ b → (TX8 a).2.1 ≠ (TX8 b).2.1 := by decide +kernel
theorem tyX8_ok : ∀ k, k < 6 → parseFieldDescriptor (TX8 k).2.2.1 = some (tyX8 k) := by decide +kernel
def RX9 : String := "PictureAgency$WordTree"
def TX9 : u_T := fun k => match k with
  | 0 => ("PictureAgency$WordTree", "made", "[I", true)
  | 1 => ("PictureAgency$WordTree", "madeIn", "[I", true)
  | 2 => ("PictureAgency$WordTree", "parents", "[I", true)
  | 3 => ("PictureAgency$WordTree", "puttings", "LPictureAgency$Log;", true)
  | _ => ("PictureAgency$WordTree", "count", "I", false)
def tyX9 : Nat → FieldType := fun k => match k with
  | 0 => .array .int
  | 1 => .array .int
  | 2 => .array .int
  | 3 => .object "PictureAgency$Log"
  | _ => .int
theorem nmX9 : ∀ a, a < 5 → ∀ b, b < 5 → a ≠ b → (TX9 a).2.1 ≠ (TX9 b).2.1 := by decide +kernel
theorem tyX9_ok : ∀ k, k < 5 → parseFieldDescriptor (TX9 k).2.2.1 = some (tyX9 k) := by decide +kernel
def RX10 : String := "PictureAgency"
def TX10 : u_T := fun k => match k with
  | 0 => ("PictureAgency", "tree", "LPictureAgency$WordTree;", true)
  | 1 => ("PictureAgency", "album", "LPictureAgency$Album;", true)
  | 2 => ("PictureAgency", "captions", "LPictureAgency$Captions;", true)
  | 3 => ("PictureAgency", "leaves", "LPictureAgency$Log;", true)
  | 4 => ("PictureAgency", "embargoes", "LPictureAgency$Log;", true)
  | 5 => ("PictureAgency", "reader", "LPictureAgency$Reader;", true)
  | 6 => ("PictureAgency", "tape", "LPictureAgency$Tape;", true)
  | 7 => ("PictureAgency", "shelf", "LPictureAgency$Shelf;", true)
  | 8 => ("PictureAgency", "ledger", "LPictureAgency$Ledger;", true)
  | 9 => ("PictureAgency", "rates", "[I", true)
  | 10 => ("PictureAgency", "share", "I", false)
  | _ => ("PictureAgency", "clock", "I", false)
def tyX10 : Nat → FieldType := fun k => match k with
  | 0 => .object "PictureAgency$WordTree"
  | 1 => .object "PictureAgency$Album"
  | 2 => .object "PictureAgency$Captions"
  | 3 => .object "PictureAgency$Log"
  | 4 => .object "PictureAgency$Log"
  | 5 => .object "PictureAgency$Reader"
  | 6 => .object "PictureAgency$Tape"
  | 7 => .object "PictureAgency$Shelf"
  | 8 => .object "PictureAgency$Ledger"
  | 9 => .array .int
  | 10 => .int
  | _ => .int
theorem nmX10 : ∀ a, a < 12 → ∀ b, b < 12 → a ≠ b → (TX10 a).2.1 ≠ (TX10 b).2.1 := by decide +kernel
theorem tyX10_ok : ∀ k, k < 12 → parseFieldDescriptor (TX10 k).2.2.1 = some (tyX10 k) := by decide +kernel
def RX11 : String := "PictureAgencyModel"
def TX11 : u_T := fun k => match k with
  | 0 => ("PictureAgencyModel", "clock", "I", false)
  | 1 => ("PictureAgencyModel", "words", "I", false)
  | 2 => ("PictureAgencyModel", "puts", "I", false)
  | 3 => ("PictureAgencyModel", "putsTold", "I", false)
  | 4 => ("PictureAgencyModel", "putWord", "[I", true)
  | 5 => ("PictureAgencyModel", "putIn", "[I", true)
  | 6 => ("PictureAgencyModel", "putAt", "[I", true)
  | 7 => ("PictureAgencyModel", "pictures", "I", false)
  | 8 => ("PictureAgencyModel", "shutter", "[I", true)
  | 9 => ("PictureAgencyModel", "taken", "[I", true)
  | 10 => ("PictureAgencyModel", "came", "[I", true)
  | 11 => ("PictureAgencyModel", "persons", "[I", true)
  | 12 => ("PictureAgencyModel", "grid", "[I", true)
  | 13 => ("PictureAgencyModel", "captions", "I", false)
  | 14 => ("PictureAgencyModel", "capPicture", "[I", true)
  | 15 => ("PictureAgencyModel", "capWord", "[I", true)
  | 16 => ("PictureAgencyModel", "capAt", "[I", true)
  | 17 => ("PictureAgencyModel", "capGets", "[Z", true)
  | 18 => ("PictureAgencyModel", "limit", "I", false)
  | 19 => ("PictureAgencyModel", "leaves", "I", false)
  | 20 => ("PictureAgencyModel", "leaveOf", "[I", true)
  | 21 => ("PictureAgencyModel", "leaveAt", "[I", true)
  | 22 => ("PictureAgencyModel", "leaveGiven", "[Z", true)
  | 23 => ("PictureAgencyModel", "embargoes", "I", false)
  | 24 => ("PictureAgencyModel", "embargoOf", "[I", true)
  | 25 => ("PictureAgencyModel", "embargoAt", "[I", true)
  | 26 => ("PictureAgencyModel", "embargoTill", "[I", true)
  | 27 => ("PictureAgencyModel", "isOfSet", "[Z", true)
  | 28 => ("PictureAgencyModel", "tape", "[I", true)
  | 29 => ("PictureAgencyModel", "taped", "I", false)
  | 30 => ("PictureAgencyModel", "texts", "[I", true)
  | 31 => ("PictureAgencyModel", "clauses", "[I", true)
  | 32 => ("PictureAgencyModel", "lands", "[I", true)
  | 33 => ("PictureAgencyModel", "uses", "[I", true)
  | 34 => ("PictureAgencyModel", "dayFrom", "[I", true)
  | 35 => ("PictureAgencyModel", "dayTo", "[I", true)
  | 36 => ("PictureAgencyModel", "most", "[I", true)
  | 37 => ("PictureAgencyModel", "beside", "[J", true)
  | 38 => ("PictureAgencyModel", "fault", "I", false)
  | 39 => ("PictureAgencyModel", "faultPlace", "I", false)
  | 40 => ("PictureAgencyModel", "at", "I", false)
  | 41 => ("PictureAgencyModel", "place", "I", false)
  | 42 => ("PictureAgencyModel", "token", "I", false)
  | 43 => ("PictureAgencyModel", "number", "I", false)
  | 44 => ("PictureAgencyModel", "hinders", "I", false)
  | 45 => ("PictureAgencyModel", "sales", "I", false)
  | 46 => ("PictureAgencyModel", "salePicture", "[I", true)
  | 47 => ("PictureAgencyModel", "saleLand", "[I", true)
  | 48 => ("PictureAgencyModel", "saleUse", "[I", true)
  | 49 => ("PictureAgencyModel", "saleSize", "[I", true)
  | 50 => ("PictureAgencyModel", "saleAt", "[I", true)
  | 51 => ("PictureAgencyModel", "until", "[I", true)
  | 52 => ("PictureAgencyModel", "price", "[I", true)
  | 53 => ("PictureAgencyModel", "own", "[I", true)
  | 54 => ("PictureAgencyModel", "firsts", "[I", true)
  | 55 => ("PictureAgencyModel", "firstShutter", "[I", true)
  | 56 => ("PictureAgencyModel", "struck", "[Z", true)
  | 57 => ("PictureAgencyModel", "led", "[I", true)
  | 58 => ("PictureAgencyModel", "rates", "[I", true)
  | 59 => ("PictureAgencyModel", "share", "I", false)
  | 60 => ("PictureAgencyModel", "printings", "I", false)
  | _ => ("PictureAgencyModel", "printedTo", "[I", true)
def tyX11 : Nat → FieldType := fun k => match k with
  | 0 => .int
  | 1 => .int
  | 2 => .int
  | 3 => .int
  | 4 => .array .int
  | 5 => .array .int
  | 6 => .array .int
  | 7 => .int
  | 8 => .array .int
  | 9 => .array .int
  | 10 => .array .int
  | 11 => .array .int
  | 12 => .array .int
  | 13 => .int
  | 14 => .array .int
  | 15 => .array .int
  | 16 => .array .int
  | 17 => .array .boolean
  | 18 => .int
  | 19 => .int
  | 20 => .array .int
  | 21 => .array .int
  | 22 => .array .boolean
  | 23 => .int
  | 24 => .array .int
  | 25 => .array .int
  | 26 => .array .int
  | 27 => .array .boolean
  | 28 => .array .int
  | 29 => .int
  | 30 => .array .int
  | 31 => .array .int
  | 32 => .array .int
  | 33 => .array .int
  | 34 => .array .int
  | 35 => .array .int
  | 36 => .array .int
  | 37 => .array .long
  | 38 => .int
  | 39 => .int
  | 40 => .int
  | 41 => .int
  | 42 => .int
  | 43 => .int
  | 44 => .int
  | 45 => .int
  | 46 => .array .int
  | 47 => .array .int
  | 48 => .array .int
  | 49 => .array .int
  | 50 => .array .int
  | 51 => .array .int
  | 52 => .array .int
  | 53 => .array .int
  | 54 => .array .int
  | 55 => .array .int
  | 56 => .array .boolean
  | 57 => .array .int
  | 58 => .array .int
  | 59 => .int
  | 60 => .int
  | _ => .array .int
theorem nmX11 : ∀ a, a < 62 → ∀ b, b < 62 → a ≠ b → (TX11 a).2.1 ≠ (TX11 b).2.1 := by decide +kernel
theorem tyX11_ok : ∀ k, k < 62 → parseFieldDescriptor (TX11 k).2.2.1 = some (tyX11 k) := by decide +kernel
abbrev am_cls : List vw_C := [(RX0, TX0, 8), (RX1, TX1, 2), (RX2, TX2, 5), (RX3, TX3, 4), (RX4, TX4, 11), (RX5, TX5, 13), (RX6, TX6, 2), (RX7, TX7, 2), (RX8, TX8, 6), (RX9, TX9, 5), (RX10, TX10, 12), (RX11, TX11, 62)]
abbrev k_Album_init : Nat := 0
abbrev k_Album_isPicture : Nat := 1
abbrev k_Album_add : Nat := 2
abbrev k_Album_shutterOf : Nat := 3
abbrev k_Album_personsOn : Nat := 4
abbrev k_Album_distance : Nat := 5
abbrev k_Album_setOf : Nat := 6
abbrev k_Album_firstOf : Nat := 7
abbrev k_Album_difference : Nat := 8
abbrev k_Captions_init : Nat := 9
abbrev k_Captions_change : Nat := 10
abbrev k_Captions_picturesWithOneOf : Nat := 11
abbrev k_Captions_recall : Nat := 12
abbrev k_Ledger_init : Nat := 13
abbrev k_Ledger_hasRoom : Nat := 14
abbrev k_Ledger_add : Nat := 15
abbrev k_Ledger_saleAt : Nat := 16
abbrev k_Ledger_firstShutting : Nat := 17
abbrev k_Ledger_firstFor : Nat := 18
abbrev k_Ledger_lead : Nat := 19
abbrev k_Ledger_ledTo : Nat := 20
abbrev k_Ledger_gainOf : Nat := 21
abbrev k_Ledger_gainOfAgency : Nat := 22
abbrev k_Log_init : Nat := 23
abbrev k_Log_tell : Nat := 24
abbrev k_Log_latest : Nat := 25
abbrev k_Log_toldBy : Nat := 26
abbrev k_Log_thingAt : Nat := 27
abbrev k_Log_valueAt : Nat := 28
abbrev k_Reader_init : Nat := 29
abbrev k_Reader_readTape : Nat := 30
abbrev k_Reader_readClause : Nat := 31
abbrev k_Reader_readNumbers : Nat := 32
abbrev k_Reader_take : Nat := 33
abbrev k_Reader_takeLand : Nat := 34
abbrev k_Reader_takeUse : Nat := 35
abbrev k_Reader_takeFrom : Nat := 36
abbrev k_Reader_takeTo : Nat := 37
abbrev k_Reader_takeMost : Nat := 38
abbrev k_Reader_takeShunned : Nat := 39
abbrev k_Reader_fail : Nat := 40
abbrev k_Reader_clauseHere : Nat := 41
abbrev k_Reader_spells : Nat := 42
abbrev k_Reader_step : Nat := 43
abbrev k_Reader_stepOverLetters : Nat := 44
abbrev k_Reader_stepOverDigits : Nat := 45
abbrev k_Reader_isLetter : Nat := 46
abbrev k_Reader_isDigit : Nat := 47
abbrev k_Sale_init : Nat := 48
abbrev k_Sale_tellOf : Nat := 49
abbrev k_Shelf_init : Nat := 50
abbrev k_Shelf_hasRoom : Nat := 51
abbrev k_Shelf_add : Nat := 52
abbrev k_Shelf_textAt : Nat := 53
abbrev k_Tape_init : Nat := 54
abbrev k_Tape_append : Nat := 55
abbrev k_Tape_byteAt : Nat := 56
abbrev k_Terms_init : Nat := 57
abbrev k_Terms_allow : Nat := 58
abbrev k_WordTree_init : Nat := 59
abbrev k_WordTree_isWord : Nat := 60
abbrev k_WordTree_add : Nat := 61
abbrev k_WordTree_move : Nat := 62
abbrev k_WordTree_parentOf : Nat := 63
abbrev k_WordTree_chainOf : Nat := 64
abbrev k_WordTree_treeOf : Nat := 65
abbrev k_WordTree_canHold : Nat := 66
abbrev k_WordTree_recall : Nat := 67
abbrev k_WordTree_climb : Nat := 68
abbrev k_A_init : Nat := 69
abbrev k_A_minute : Nat := 70
abbrev k_A_word : Nat := 71
abbrev k_A_put : Nat := 72
abbrev k_A_within : Nat := 73
abbrev k_A_picture : Nat := 74
abbrev k_A_caption : Nat := 75
abbrev k_A_has : Nat := 76
abbrev k_A_search : Nat := 77
abbrev k_A_found : Nat := 78
abbrev k_A_far : Nat := 79
abbrev k_A_limit : Nat := 80
abbrev k_A_set : Nat := 81
abbrev k_A_leave : Nat := 82
abbrev k_A_embargo : Nat := 83
abbrev k_A_known : Nat := 84
abbrev k_A_feed : Nat := 85
abbrev k_A_end : Nat := 86
abbrev k_A_text : Nat := 87
abbrev k_A_fault : Nat := 88
abbrev k_A_why : Nat := 89
abbrev k_A_by : Nat := 90
abbrev k_A_rate : Nat := 91
abbrev k_A_sale : Nat := 92
abbrev k_A_strike : Nat := 93
abbrev k_A_saleOf : Nat := 94
abbrev k_A_got : Nat := 95
abbrev k_A_print : Nat := 96
abbrev k_A_printed : Nat := 97
abbrev k_A_about : Nat := 98
abbrev k_A_isMinute : Nat := 99
abbrev k_A_isPerson : Nat := 100
abbrev k_A_isLand : Nat := 101
abbrev k_A_isUse : Nat := 102
abbrev k_A_isSize : Nat := 103
abbrev k_A_holds : Nat := 104
abbrev k_A_isPast : Nat := 105
abbrev k_A_canBeUsed : Nat := 106
abbrev k_A_picturesWith : Nat := 107
abbrev k_A_textAgainst : Nat := 108
abbrev k_A_personAgainst : Nat := 109
abbrev k_A_saleAgainst : Nat := 110
abbrev k_A_split : Nat := 111
abbrev k_M_init : Nat := 112
abbrev k_M_isIn : Nat := 113
abbrev k_M_isWord : Nat := 114
abbrev k_M_isPicture : Nat := 115
abbrev k_M_isPast : Nat := 116
abbrev k_M_minute : Nat := 117
abbrev k_M_keepPut : Nat := 118
abbrev k_M_liesIn : Nat := 119
abbrev k_M_isOf : Nat := 120
abbrev k_M_word : Nat := 121
abbrev k_M_put : Nat := 122
abbrev k_M_within : Nat := 123
abbrev k_M_picture : Nat := 124
abbrev k_M_hasJust : Nat := 125
abbrev k_M_caption : Nat := 126
abbrev k_M_hasAny : Nat := 127
abbrev k_M_has : Nat := 128
abbrev k_M_isFound : Nat := 129
abbrev k_M_search : Nat := 130
abbrev k_M_found : Nat := 131
abbrev k_M_farOf : Nat := 132
abbrev k_M_far : Nat := 133
abbrev k_M_limit : Nat := 134
abbrev k_M_spread : Nat := 135
abbrev k_M_firstOf : Nat := 136
abbrev k_M_set : Nat := 137
abbrev k_M_leave : Nat := 138
abbrev k_M_embargo : Nat := 139
abbrev k_M_hasLeave : Nat := 140
abbrev k_M_embargoed : Nat := 141
abbrev k_M_known : Nat := 142
abbrev k_M_four : Nat := 143
abbrev k_M_feed : Nat := 144
abbrev k_M_end : Nat := 145
abbrev k_M_see : Nat := 146
abbrev k_M_isLetter : Nat := 147
abbrev k_M_isDigit : Nat := 148
abbrev k_M_pack : Nat := 149
abbrev k_M_wordOf : Nat := 150
abbrev k_M_nextToken : Nat := 151
abbrev k_M_isTold : Nat := 152
abbrev k_M_keep : Nat := 153
abbrev k_M_clause : Nat := 154
abbrev k_M_read : Nat := 155
abbrev k_M_text : Nat := 156
abbrev k_M_fault : Nat := 157
abbrev k_M_tells : Nat := 158
abbrev k_M_lets : Nat := 159
abbrev k_M_isUse : Nat := 160
abbrev k_M_whyNot : Nat := 161
abbrev k_M_isBeside : Nat := 162
abbrev k_M_why : Nat := 163
abbrev k_M_by : Nat := 164
abbrev k_M_rate : Nat := 165
abbrev k_M_sale : Nat := 166
abbrev k_M_strike : Nat := 167
abbrev k_M_saleOf : Nat := 168
abbrev k_M_got : Nat := 169
abbrev k_M_print : Nat := 170
abbrev k_M_printed : Nat := 171
abbrev k_M_about : Nat := 172
abbrev k_Long_bitCount : Nat := 173
abbrev k_String_length : Nat := 174
abbrev k_String_charAt : Nat := 175
abbrev k_String_coder : Nat := 176
abbrev k_String_isLatin1 : Nat := 177
abbrev k_String_checkIndex : Nat := 178
abbrev k_StringLatin1_charAt : Nat := 179
abbrev k_Arrays_fill : Nat := 180
abbrev k_Arrays_fill_IIV : Nat := 181
abbrev k_Preconditions_checkIndex : Nat := 182
abbrev k_L_law : Nat := 183
def am_nest : List Cond := [.methodLinkNest "PictureAgency" 9 ⟨"PictureAgency$WordTree", "<init>", "()V"⟩ "PictureAgency",
  .fieldLinkNest "PictureAgency" 165 "PictureAgency$WordTree" "count" "I" "PictureAgency",
  .methodLinkNest "PictureAgency" 18 ⟨"PictureAgency$Album", "<init>", "()V"⟩ "PictureAgency",
  .fieldLinkNest "PictureAgency" 252 "PictureAgency$Album" "count" "I" "PictureAgency",
  .fieldLinkNest "PictureAgency" 137 "PictureAgency$Album" "likeness" "I" "PictureAgency",
  .methodLinkNest "PictureAgency" 25 ⟨"PictureAgency$Captions", "<init>", "()V"⟩ "PictureAgency",
  .methodLinkNest "PictureAgency" 44 ⟨"PictureAgency$Reader", "<init>", "()V"⟩ "PictureAgency",
  .methodLinkNest "PictureAgency$Reader" 11 ⟨"PictureAgency$Tape", "<init>", "()V"⟩ "PictureAgency",
  .fieldLinkNest "PictureAgency" 154 "PictureAgency$Tape" "length" "I" "PictureAgency",
  .fieldLinkNest "PictureAgency" 49 "PictureAgency$Reader" "tape" "LPictureAgency$Tape;" "PictureAgency",
  .fieldLinkNest "PictureAgency" 175 "PictureAgency$Reader" "hasRead" "Z" "PictureAgency",
  .fieldLinkNest "PictureAgency" 179 "PictureAgency$Reader" "failure" "I" "PictureAgency",
  .fieldLinkNest "PictureAgency" 182 "PictureAgency$Reader" "place" "I" "PictureAgency",
  .methodLinkNest "PictureAgency" 56 ⟨"PictureAgency$Shelf", "<init>", "()V"⟩ "PictureAgency",
  .methodLinkNest "PictureAgency" 63 ⟨"PictureAgency$Ledger", "<init>", "()V"⟩ "PictureAgency",
  .fieldLinkNest "PictureAgency" 253 "PictureAgency$Ledger" "count" "I" "PictureAgency",
  .fieldLinkNest "PictureAgency" 239 "PictureAgency$Ledger" "printings" "I" "PictureAgency",
  .fieldLinkNest "PictureAgency" 254 "PictureAgency$Ledger" "claims" "I" "PictureAgency",
  .methodLinkNest "PictureAgency$WordTree" 45 ⟨"PictureAgency", "holds", "(JI)Z"⟩ "PictureAgency",
  .methodLinkNest "PictureAgency$Album" 46 ⟨"PictureAgency", "holds", "(JI)Z"⟩ "PictureAgency",
  .methodLinkNest "PictureAgency$Reader" 31 ⟨"PictureAgency$Terms", "<init>", "()V"⟩ "PictureAgency",
  .fieldLinkNest "PictureAgency$Reader" 99 "PictureAgency$Terms" "lands" "J" "PictureAgency",
  .fieldLinkNest "PictureAgency$Reader" 106 "PictureAgency$Terms" "uses" "J" "PictureAgency",
  .fieldLinkNest "PictureAgency$Reader" 112 "PictureAgency$Terms" "from" "I" "PictureAgency",
  .fieldLinkNest "PictureAgency$Reader" 115 "PictureAgency$Terms" "to" "I" "PictureAgency",
  .fieldLinkNest "PictureAgency$Reader" 121 "PictureAgency$Terms" "mostSize" "I" "PictureAgency",
  .fieldLinkNest "PictureAgency$Reader" 124 "PictureAgency$Terms" "shunned" "J" "PictureAgency",
  .methodLinkNest "PictureAgency$Reader" 62 ⟨"PictureAgency", "holds", "(JI)Z"⟩ "PictureAgency",
  .methodLinkNest "PictureAgency$Reader" 96 ⟨"PictureAgency", "isLand", "(I)Z"⟩ "PictureAgency",
  .methodLinkNest "PictureAgency$Reader" 103 ⟨"PictureAgency", "isUse", "(I)Z"⟩ "PictureAgency",
  .methodLinkNest "PictureAgency$Reader" 109 ⟨"PictureAgency", "isMinute", "(I)Z"⟩ "PictureAgency",
  .methodLinkNest "PictureAgency$Reader" 118 ⟨"PictureAgency", "isSize", "(I)Z"⟩ "PictureAgency",
  .methodLinkNest "PictureAgency$Terms" 36 ⟨"PictureAgency", "holds", "(JI)Z"⟩ "PictureAgency",
  .methodLinkNest "PictureAgency$Ledger" 46 ⟨"PictureAgency", "holds", "(JI)Z"⟩ "PictureAgency",
  .fieldLinkNest "PictureAgency$Ledger" 43 "PictureAgency$Sale" "picture" "I" "PictureAgency",
  .fieldLinkNest "PictureAgency" 302 "PictureAgency$Sale" "picture" "I" "PictureAgency",
  .fieldLinkNest "PictureAgency$Ledger" 40 "PictureAgency$Sale" "land" "I" "PictureAgency",
  .fieldLinkNest "PictureAgency$Ledger" 53 "PictureAgency$Sale" "use" "I" "PictureAgency",
  .fieldLinkNest "PictureAgency" 291 "PictureAgency$Sale" "use" "I" "PictureAgency",
  .fieldLinkNest "PictureAgency$Ledger" 56 "PictureAgency$Sale" "size" "I" "PictureAgency",
  .fieldLinkNest "PictureAgency" 294 "PictureAgency$Sale" "size" "I" "PictureAgency",
  .fieldLinkNest "PictureAgency$Ledger" 37 "PictureAgency$Sale" "until" "I" "PictureAgency",
  .fieldLinkNest "PictureAgency" 297 "PictureAgency$Sale" "until" "I" "PictureAgency",
  .fieldLinkNest "PictureAgency$Ledger" 77 "PictureAgency$Sale" "price" "I" "PictureAgency",
  .fieldLinkNest "PictureAgency" 308 "PictureAgency$Sale" "price" "I" "PictureAgency",
  .fieldLinkNest "PictureAgency$Ledger" 65 "PictureAgency$Sale" "shutter" "I" "PictureAgency",
  .fieldLinkNest "PictureAgency" 311 "PictureAgency$Sale" "shutter" "I" "PictureAgency",
  .fieldLinkNest "PictureAgency$Ledger" 68 "PictureAgency$Sale" "shutterGot" "I" "PictureAgency",
  .fieldLinkNest "PictureAgency" 314 "PictureAgency$Sale" "shutterGot" "I" "PictureAgency",
  .fieldLinkNest "PictureAgency$Ledger" 71 "PictureAgency$Sale" "firstShutter" "I" "PictureAgency",
  .fieldLinkNest "PictureAgency" 317 "PictureAgency$Sale" "firstShutter" "I" "PictureAgency",
  .fieldLinkNest "PictureAgency$Ledger" 74 "PictureAgency$Sale" "firstGot" "I" "PictureAgency",
  .fieldLinkNest "PictureAgency" 320 "PictureAgency$Sale" "firstGot" "I" "PictureAgency",
  .fieldLinkNest "PictureAgency$Ledger" 33 "PictureAgency$Sale" "struck" "Z" "PictureAgency",
  .fieldLinkNest "PictureAgency" 226 "PictureAgency$Sale" "struck" "Z" "PictureAgency",
  .fieldLinkNest "PictureAgency$Ledger" 50 "PictureAgency$Sale" "printing" "I" "PictureAgency"]
def am_strs : List (String × Nat × String) := [("PictureAgency$Reader", 130, "land"), ("PictureAgency$Reader", 136, "use"), ("PictureAgency$Reader", 138, "days"), ("PictureAgency$Reader", 140, "most"), ("PictureAgency$Reader", 142, "not")]
def am_cw : List (Nat × Nat) := [(127, 57), (161, 58), (251, 62), (87, 55), (178, 59), (783, 71), (236, 61), (184, 60), (538, 66), (81, 54), (73, 53), (912, 64)]
def am_ca : List (List Nat) := [[142, 144, 146, 148, 150, 152, 154, 156], [170, 172], [266, 268, 270, 272, 274], [99, 101, 103, 105], [212, 214, 216, 218, 220, 222, 224, 226, 228, 230, 232], [821, 823, 825, 827, 829, 831, 833, 835, 837, 839, 841, 843, 845], [245, 247], [192, 194], [558, 560, 562, 564, 566, 568], [115, 117, 119, 121, 123], [292, 294, 296, 298, 300, 302, 304, 306, 308, 310, 312, 314], [979, 981, 983, 985, 987, 989, 991, 993, 995, 997, 999, 1001, 1003, 1005, 1007, 1009, 1011, 1013, 1015, 1017, 1019, 1021, 1023, 1025, 1027, 1029, 1031, 1033, 1035, 1037, 1039, 1041, 1043, 1045, 1047, 1049, 1051, 1053, 1055, 1057, 1059, 1061, 1063, 1065, 1067, 1069, 1071, 1073, 1075, 1077, 1079, 1081, 1083, 1085, 1087, 1089, 1091, 1093, 1095, 1097, 1099, 1101]]
def am_dfl : List (List Value) := [[.null, .null, .null, .null, .null, .null, .int 0, .int 0], [.null, .null], [.null, .null, .int 0, .int 0, .int 0], [.null, .null, .null, .int 0], [.null, .int 0, .int 0, .int 0, .null, .int 0, .int 0, .int 0, .int 0, .int 0, .int 0], [.int 0, .int 0, .int 0, .int 0, .int 0, .int 0, .int 0, .int 0, .int 0, .int 0, .int 0, .int 0, .int 0], [.null, .null], [.null, .int 0], [.long 0, .long 0, .int 0, .int 0, .int 0, .long 0], [.null, .null, .null, .null, .int 0], [.null, .null, .null, .null, .null, .null, .null, .null, .null, .null, .int 0, .int 0], [.int 0, .int 0, .int 0, .int 0, .null, .null, .null, .int 0, .null, .null, .null, .null, .null, .int 0, .null, .null, .null, .null, .int 0, .int 0, .null, .null, .null, .int 0, .null, .null, .null, .null, .null, .int 0, .null, .null, .null, .null, .null, .null, .null, .null, .int 0, .int 0, .int 0, .int 0, .int 0, .int 0, .int 0, .int 0, .null, .null, .null, .null, .null, .null, .null, .null, .null, .null, .null, .null, .null, .int 0, .int 0, .null]]
def am_aos : List String := ["PictureAgency$Terms", "PictureAgency$Sale"]
abbrev am_NS : Nat := 12
abbrev am_w0 : Nat × Nat := (78, 79)
