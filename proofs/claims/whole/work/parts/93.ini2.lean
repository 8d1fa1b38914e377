/-! THE START, 2: the class is made; by program -/
section I2
variable {L k s : Nat} {xs : Nat → Int32} {m : List (Nat × am_C)} {Q : Option Value → am_H → Prop}
theorem mk_5 (h : k < 1000000) : am_mk 5 (hp L xs k s m) = True := hp_mk (n := 5) (by decide) (by decide) (by decide) h
theorem cl_5 : (5 : Int32).toNatClampNeg = 5 := by decide
theorem mk_40 (h : k < 1000000) : am_mk 40 (hp L xs k s m) = True := hp_mk (n := 40) (by decide) (by decide) (by decide) h
theorem cl_40 : (40 : Int32).toNatClampNeg = 40 := by decide
theorem mk_60 (h : k < 1000000) : am_mk 60 (hp L xs k s m) = True := hp_mk (n := 60) (by decide) (by decide) (by decide) h
theorem cl_60 : (60 : Int32).toNatClampNeg = 60 := by decide
theorem mk_100 (h : k < 1000000) : am_mk 100 (hp L xs k s m) = True := hp_mk (n := 100) (by decide) (by decide) (by decide) h
theorem cl_100 : (100 : Int32).toNatClampNeg = 100 := by decide
theorem mk_120 (h : k < 1000000) : am_mk 120 (hp L xs k s m) = True := hp_mk (n := 120) (by decide) (by decide) (by decide) h
theorem cl_120 : (120 : Int32).toNatClampNeg = 120 := by decide
theorem mk_121 (h : k < 1000000) : am_mk 121 (hp L xs k s m) = True := hp_mk (n := 121) (by decide) (by decide) (by decide) h
theorem cl_121 : (121 : Int32).toNatClampNeg = 121 := by decide
theorem mk_140 (h : k < 1000000) : am_mk 140 (hp L xs k s m) = True := hp_mk (n := 140) (by decide) (by decide) (by decide) h
theorem cl_140 : (140 : Int32).toNatClampNeg = 140 := by decide
theorem mk_200 (h : k < 1000000) : am_mk 200 (hp L xs k s m) = True := hp_mk (n := 200) (by decide) (by decide) (by decide) h
theorem cl_200 : (200 : Int32).toNatClampNeg = 200 := by decide
theorem mk_640 (h : k < 1000000) : am_mk 640 (hp L xs k s m) = True := hp_mk (n := 640) (by decide) (by decide) (by decide) h
theorem cl_640 : (640 : Int32).toNatClampNeg = 640 := by decide
theorem mk_1600 (h : k < 1000000) : am_mk 1600 (hp L xs k s m) = True := hp_mk (n := 1600) (by decide) (by decide) (by decide) h
theorem cl_1600 : (1600 : Int32).toNatClampNeg = 1600 := by decide
theorem mx_100 : ((100 : Int32) < 0) = False := eq_false (by decide)
theorem mx_200 : ((200 : Int32) < 0) = False := eq_false (by decide)
theorem il_0 : am_ix 0 5 = True := eq_true (by unfold am_ix; decide)
theorem cl_0 : (0 : Int32).toNatClampNeg = 0 := by decide
theorem il_1 : am_ix 1 5 = True := eq_true (by unfold am_ix; decide)
theorem cl_1 : (1 : Int32).toNatClampNeg = 1 := by decide
theorem il_2 : am_ix 2 5 = True := eq_true (by unfold am_ix; decide)
theorem cl_2 : (2 : Int32).toNatClampNeg = 2 := by decide
theorem il_3 : am_ix 3 5 = True := eq_true (by unfold am_ix; decide)
theorem cl_3 : (3 : Int32).toNatClampNeg = 3 := by decide
theorem il_4 : am_ix 4 5 = True := eq_true (by unfold am_ix; decide)
theorem cl_4 : (4 : Int32).toNatClampNeg = 4 := by decide
def filI (f : Nat → Int32) (v : Int32) : Nat → Nat → Int32
  | 0 => f
  | n + 1 => upd (filI f v n) n v
theorem fill_loop {f : Nat → Int32} {v : Int32} : ∀ j i, i + j = 5 → ax k_Arrays_fill_IIV 5 [some (.ref 39), some (.int v), some (.int (nI i)), some (.int (nI 5))] [] (hp L xs k s ((39, am_ia 0 5 (filI f v i)) :: m)) Q = Q none (hp L xs k s ((39, am_ia 0 5 (filI f v 5)) :: m)) := by
  intro j
  induction j with
  | zero =>
    intro i hi
    have hi : i = 5 := by omega
    subst hi
    have hc : ¬ nI 5 < nI 5 := Int32.lt_irrefl
    rw [s_Arrays_fill_IIV_5]
    simp only [s_Arrays_fill_IIV_0, s_Arrays_fill_IIV_1, s_Arrays_fill_IIV_2, s_Arrays_fill_IIV_3, s_Arrays_fill_IIV_4, s_Arrays_fill_IIV_6, s_Arrays_fill_IIV_7, s_Arrays_fill_IIV_10, s_Arrays_fill_IIV_11, s_Arrays_fill_IIV_12, s_Arrays_fill_IIV_13, s_Arrays_fill_IIV_14, s_Arrays_fill_IIV_17, s_Arrays_fill_IIV_20, ↓reduceIte, Nat.reduceEqDiff, Nat.reduceLT, am_top, ax_f_some, ax_k_some, ax_k_none, s8_0, s8_1, s8_2, s8_3, s8_4, c2p_n, c2p_i, c2p_r, c2p_z, okvp_i, okvp_l, okvp_r, okvp_n, okvp_z, okvp_z0, okvp_z1, bi_narp, am_nar0p, am_nar1p, bi_0, bi_1, true_and, and_true, hc]
  | succ j ih =>
    intro i hi
    have ih := ih (i + 1) (by omega)
    have hc : nI i < nI 5 := nI_lt (by omega) (by omega)
    have hix := ix_nI (show i < 5 by omega) (by omega)
    have hcl : (nI i).toNatClampNeg = i := nI_clamp (by omega)
    rw [s_Arrays_fill_IIV_5]
    simp only [s_Arrays_fill_IIV_0, s_Arrays_fill_IIV_1, s_Arrays_fill_IIV_2, s_Arrays_fill_IIV_3, s_Arrays_fill_IIV_4, s_Arrays_fill_IIV_6, s_Arrays_fill_IIV_7, s_Arrays_fill_IIV_10, s_Arrays_fill_IIV_11, s_Arrays_fill_IIV_12, s_Arrays_fill_IIV_13, s_Arrays_fill_IIV_14, s_Arrays_fill_IIV_17, s_Arrays_fill_IIV_20, ↓reduceIte, Nat.reduceEqDiff, Nat.reduceLT, am_top, ax_f_some, ax_k_some, ax_k_none, s8_0, s8_1, s8_2, s8_3, s8_4, c2p_n, c2p_i, c2p_r, c2p_z, okvp_i, okvp_l, okvp_r, okvp_n, okvp_z, okvp_z0, okvp_z1, bi_narp, am_nar0p, am_nar1p, bi_0, bi_1, true_and, and_true, hp_j, lk, jlo_ia, hc, hix, hcl, nI_1, hp_set, lrep]
    exact ih
theorem fill5 {f : Nat → Int32} {v : Int32} : ax k_Arrays_fill_IIV 0 [some (.ref 39), some (.int v), none, none] [] (hp L xs k s ((39, am_ia 0 5 f) :: m)) Q = Q none (hp L xs k s ((39, am_ia 0 5 (filI f v 5)) :: m)) := by
  have hl := fill_loop (L := L) (xs := xs) (k := k) (s := s) (m := m) (Q := Q) (f := f) (v := v) 5 0 (by omega)
  have hn : am_nv (hp L xs k s ((39, am_ia 0 5 f) :: m)) 39 = some 5 := by
    rw [hp_nv (by decide)]
    rfl
  simp only [s_Arrays_fill_IIV_0, s_Arrays_fill_IIV_1, s_Arrays_fill_IIV_2, s_Arrays_fill_IIV_3, s_Arrays_fill_IIV_4, ↓reduceIte, Nat.reduceEqDiff, Nat.reduceLT, am_top, ax_f_some, ax_k_some, ax_k_none, s8_0, s8_1, s8_2, s8_3, s8_4, c2p_n, c2p_i, c2p_r, c2p_z, okvp_i, okvp_l, okvp_r, okvp_n, okvp_z, okvp_z0, okvp_z1, bi_narp, am_nar0p, am_nar1p, bi_0, bi_1, true_and, and_true, hn, ofNat_nI]
  exact hl
def mA : List (Nat × am_C) := [(39, am_ia 0 5 (filI (fun _ => 0) 100 5)), (38, am_ia 0 60 (fun _ => 0)), (37, am_qa 5 60 (fun _ => none)), (36, am_ob 2 [.ref 37, .ref 38, .int 0, .int 0, .int 0]), (35, am_ia 0 40 (fun _ => 0)), (34, am_qa 8 120 (fun _ => none)), (33, am_ob 6 [.ref 34, .ref 35]), (32, am_ia 0 120 (fun _ => 0)), (31, am_ob 7 [.ref 32, .int 0]), (30, am_ob 4 [.ref 31, .int 0, .int 0, .int (-1), .null, .int 0, .int 0, .int 0, .int 0, .int 0, .int 0]), (29, am_ia 0 100 (fun _ => 0)), (28, am_ia 0 100 (fun _ => 0)), (27, am_ia 0 100 (fun _ => 0)), (26, am_ob 3 [.ref 27, .ref 28, .ref 29, .int 0]), (25, am_ia 0 100 (fun _ => 0)), (24, am_ia 0 100 (fun _ => 0)), (23, am_ia 0 100 (fun _ => 0)), (22, am_ob 3 [.ref 23, .ref 24, .ref 25, .int 0]), (21, am_la 40 (fun _ => 0)), (20, am_ia 0 200 (fun _ => 0)), (19, am_ia 0 200 (fun _ => 0)), (18, am_ia 0 200 (fun _ => 0)), (17, am_ob 3 [.ref 18, .ref 19, .ref 20, .int 0]), (16, am_ob 1 [.ref 17, .ref 21]), (15, am_ia 0 40 (fun _ => 0)), (14, am_ia 0 1600 (fun _ => 0)), (13, am_la 40 (fun _ => 0)), (12, am_ia 0 40 (fun _ => 0)), (11, am_ia 0 40 (fun _ => 0)), (10, am_ia 0 40 (fun _ => 0)), (9, am_ob 0 [.ref 10, .ref 11, .ref 12, .ref 13, .ref 14, .ref 15, .int 0, .int 10]), (8, am_ia 0 100 (fun _ => 0)), (7, am_ia 0 100 (fun _ => 0)), (6, am_ia 0 100 (fun _ => 0)), (5, am_ob 3 [.ref 6, .ref 7, .ref 8, .int 0]), (4, am_ia 0 40 (fun _ => 0)), (3, am_ia 0 40 (fun _ => 0)), (2, am_ia 0 40 (fun _ => 0)), (1, am_ob 9 [.ref 2, .ref 3, .ref 4, .ref 5, .int 0]), (0, am_ob 10 [.ref 1, .ref 9, .ref 16, .ref 22, .ref 26, .ref 30, .ref 31, .ref 33, .ref 36, .ref 39, .int 50, .int 0])]
set_option maxRecDepth 100000 in
theorem A_init_run : ax k_A_init 0 [some (.ref 0)] [] (hp L xs 1 12 [(0, am_ob 10 [.null, .null, .null, .null, .null, .null, .null, .null, .null, .null, .int 0, .int 0])]) Q = Q none (hp L xs 40 3928 mA) := by
  simp only [s_A_init_0, s_A_init_1, s_A_init_4, s_A_init_5, s_A_init_8, s_A_init_9, s_A_init_12, s_A_init_15, s_A_init_16, s_A_init_19, s_A_init_20, s_A_init_23, s_A_init_26, s_A_init_27, s_A_init_30, s_A_init_31, s_A_init_34, s_A_init_37, s_A_init_38, s_A_init_41, s_A_init_42, s_A_init_44, s_A_init_47, s_A_init_50, s_A_init_51, s_A_init_54, s_A_init_55, s_A_init_57, s_A_init_60, s_A_init_63, s_A_init_64, s_A_init_67, s_A_init_68, s_A_init_71, s_A_init_74, s_A_init_75, s_A_init_76, s_A_init_79, s_A_init_82, s_A_init_85, s_A_init_86, s_A_init_89, s_A_init_90, s_A_init_93, s_A_init_96, s_A_init_97, s_A_init_100, s_A_init_101, s_A_init_104, s_A_init_107, s_A_init_108, s_A_init_109, s_A_init_111, s_A_init_114, s_A_init_115, s_A_init_118, s_A_init_120, s_A_init_123, s_A_init_124, s_A_init_126, s_A_init_129, s_A_init_130, s_A_init_131, s_A_init_134, s_WordTree_init_0, s_WordTree_init_1, s_WordTree_init_4, s_WordTree_init_5, s_WordTree_init_7, s_WordTree_init_9, s_WordTree_init_12, s_WordTree_init_13, s_WordTree_init_15, s_WordTree_init_17, s_WordTree_init_20, s_WordTree_init_21, s_WordTree_init_23, s_WordTree_init_25, s_WordTree_init_28, s_WordTree_init_29, s_WordTree_init_32, s_WordTree_init_33, s_WordTree_init_35, s_WordTree_init_38, s_WordTree_init_41, s_Log_init_0, s_Log_init_1, s_Log_init_4, s_Log_init_5, s_Log_init_6, s_Log_init_9, s_Log_init_10, s_Log_init_11, s_Log_init_12, s_Log_init_14, s_Log_init_17, s_Log_init_18, s_Log_init_19, s_Log_init_21, s_Log_init_24, s_Log_init_25, s_Log_init_26, s_Log_init_28, s_Log_init_31, s_Album_init_0, s_Album_init_1, s_Album_init_4, s_Album_init_5, s_Album_init_7, s_Album_init_9, s_Album_init_12, s_Album_init_13, s_Album_init_15, s_Album_init_17, s_Album_init_20, s_Album_init_21, s_Album_init_23, s_Album_init_25, s_Album_init_28, s_Album_init_29, s_Album_init_31, s_Album_init_33, s_Album_init_36, s_Album_init_37, s_Album_init_40, s_Album_init_42, s_Album_init_45, s_Album_init_46, s_Album_init_48, s_Album_init_50, s_Album_init_53, s_Album_init_54, s_Album_init_56, s_Album_init_59, s_Captions_init_0, s_Captions_init_1, s_Captions_init_4, s_Captions_init_5, s_Captions_init_8, s_Captions_init_9, s_Captions_init_12, s_Captions_init_15, s_Captions_init_18, s_Captions_init_19, s_Captions_init_21, s_Captions_init_23, s_Captions_init_26, s_Reader_init_0, s_Reader_init_1, s_Reader_init_4, s_Reader_init_5, s_Reader_init_8, s_Reader_init_9, s_Reader_init_12, s_Reader_init_15, s_Reader_init_16, s_Reader_init_17, s_Reader_init_20, s_Tape_init_0, s_Tape_init_1, s_Tape_init_4, s_Tape_init_5, s_Tape_init_7, s_Tape_init_9, s_Tape_init_12, s_Shelf_init_0, s_Shelf_init_1, s_Shelf_init_4, s_Shelf_init_5, s_Shelf_init_7, s_Shelf_init_10, s_Shelf_init_13, s_Shelf_init_14, s_Shelf_init_16, s_Shelf_init_18, s_Shelf_init_21, s_Ledger_init_0, s_Ledger_init_1, s_Ledger_init_4, s_Ledger_init_5, s_Ledger_init_7, s_Ledger_init_10, s_Ledger_init_13, s_Ledger_init_14, s_Ledger_init_16, s_Ledger_init_18, s_Ledger_init_21, ↓reduceIte, Nat.reduceEqDiff, Nat.reduceLT, am_top, ax_f_some, ax_k_some, ax_k_none, s8_0, s8_1, s8_2, s8_3, s8_4, c2p_n, c2p_i, c2p_r, c2p_z, okvp_i, okvp_l, okvp_r, okvp_n, okvp_z, okvp_z0, okvp_z1, bi_narp, am_nar0p, am_nar1p, bi_0, bi_1, true_and, and_true, hp_1, hp_new, hp_put, hp_fld, hp_j, hp_set, lk, lset, lrep, cpt_ob, flo_ob, jlo_ia, Nat.reduceAdd, List.set_cons_zero, List.set_cons_succ, List.getElem?_cons_zero, List.getElem?_cons_succ, mk_5, cl_5, mk_40, cl_40, mk_60, cl_60, mk_100, cl_100, mk_120, cl_120, mk_121, cl_121, mk_140, cl_140, mk_200, cl_200, mk_640, cl_640, mk_1600, cl_1600, mx_100, mx_200, fill5, mA]
end I2
