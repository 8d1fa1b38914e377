/-! THE CLASS, 19: strike, saleOf, got, print, text -/
def aTxtS (σ : am_H) (w : Int32) (s : RS) : am_H := am_put (aRdS σ w s) 31 1 (.int 0)
section B4
variable {σ τ : am_H} {Q : Option Value → am_H → Prop} {n nt np nl ne ns : Nat} {A : Nat → Nat} {v : Nat → Nat → Int32} {i k : Nat} {tm : Nat → RS} {ch c : Int64}
theorem A_strike (h : SH σ) (hs : gi σ 36 2 2 = nI ns) (hns : ns ≤ 60) (hS : SalAt σ ns A v) {s : Nat} (hsn : s < ns) : ax k_A_strike 0 [some (.ref 0), some (.int (nI s)), none] [] σ Q = (if v s 11 = 0 then Q (some (.int 1)) (am_put σ (A s) 11 (.int 1)) else Q (some (.int 0)) σ) := by
  obtain ⟨e1, e2, e3, e4⟩ := hS s hsn
  have e4' : (A s < 1000000) = True := eq_true e4
  have f11 : am_fld σ (A s) 5 11 = some (.int (v s 11)) := fld_get e2
  simp only [s_A_strike_0, s_A_strike_1, s_A_strike_4, s_A_strike_5, s_A_strike_8, s_A_strike_8n, s_A_strike_9, s_A_strike_9n, s_A_strike_10n, s_A_strike_10, s_A_strike_13, s_A_strike_13n, s_A_strike_14, s_A_strike_17, s_A_strike_20, s_A_strike_21, s_A_strike_22, s_A_strike_22n, s_A_strike_23, s_A_strike_24, s_A_strike_27, s_A_strike_28, ↓reduceIte, Nat.reduceEqDiff, Nat.reduceLT, am_top, ax_f_some, ax_k_some, ax_k_none, s8_0, s8_1, s8_2, s8_3, s8_4, c2p_n, c2p_i, c2p_r, c2p_z, okvp_i, okvp_l, okvp_r, okvp_n, okvp_z, okvp_z0, okvp_z1, bi_narp, am_nar0p, am_nar1p, bi_0, bi_1, true_and, and_true, r_0_0 h, r_0_1 h, r_0_2 h, r_0_3 h, r_0_4 h, r_0_5 h, r_0_6 h, r_0_7 h, r_0_8 h, r_0_9 h, i_0_10 h, i_0_11 h, o_0 h, r_36_0 h, r_36_1 h, i_36_2 h, i_36_3 h, i_36_4 h, o_36 h, Ld_saleAt h hs hns hS hsn, f11, e4']
theorem A_strike_no (h : SH σ) (hs : gi σ 36 2 2 = nI ns) {x : Int32} (hx : ltB x (nI ns) = false) : ax k_A_strike 0 [some (.ref 0), some (.int x), none] [] σ Q = Q (some (.int 0)) σ := by
  simp only [s_A_strike_0, s_A_strike_1, s_A_strike_4, s_A_strike_5, s_A_strike_8, s_A_strike_8n, s_A_strike_9, s_A_strike_9n, s_A_strike_10n, s_A_strike_10, s_A_strike_13, s_A_strike_13n, s_A_strike_14, s_A_strike_17, s_A_strike_20, s_A_strike_21, s_A_strike_22, s_A_strike_22n, s_A_strike_23, s_A_strike_24, s_A_strike_27, s_A_strike_28, ↓reduceIte, Nat.reduceEqDiff, Nat.reduceLT, am_top, ax_f_some, ax_k_some, ax_k_none, s8_0, s8_1, s8_2, s8_3, s8_4, c2p_n, c2p_i, c2p_r, c2p_z, okvp_i, okvp_l, okvp_r, okvp_n, okvp_z, okvp_z0, okvp_z1, bi_narp, am_nar0p, am_nar1p, bi_0, bi_1, true_and, and_true, r_0_0 h, r_0_1 h, r_0_2 h, r_0_3 h, r_0_4 h, r_0_5 h, r_0_6 h, r_0_7 h, r_0_8 h, r_0_9 h, i_0_10 h, i_0_11 h, o_0 h, r_36_0 h, r_36_1 h, i_36_2 h, i_36_3 h, i_36_4 h, o_36 h, Ld_saleAt_no h hs hx]
theorem A_saleOf_no (h : SH σ) (hs : gi σ 36 2 2 = nI ns) {x : Int32} (hx : ltB x (nI ns) = false) (w : Int32) : ax k_A_saleOf 0 [some (.ref 0), some (.int x), some (.int w), none] [] σ Q = Q (some (.int (-1))) σ := by
  simp only [s_A_saleOf_0, s_A_saleOf_1, s_A_saleOf_4, s_A_saleOf_5, s_A_saleOf_8, s_A_saleOf_8n, s_A_saleOf_9, s_A_saleOf_9n, s_A_saleOf_10n, s_A_saleOf_10, s_A_saleOf_13, s_A_saleOf_14, s_A_saleOf_17, s_A_saleOf_17n, s_A_saleOf_18, s_A_saleOf_19, s_A_saleOf_22, ↓reduceIte, Nat.reduceEqDiff, Nat.reduceLT, am_top, ax_f_some, ax_k_some, ax_k_none, s8_0, s8_1, s8_2, s8_3, s8_4, c2p_n, c2p_i, c2p_r, c2p_z, okvp_i, okvp_l, okvp_r, okvp_n, okvp_z, okvp_z0, okvp_z1, bi_narp, am_nar0p, am_nar1p, bi_0, bi_1, true_and, and_true, r_0_0 h, r_0_1 h, r_0_2 h, r_0_3 h, r_0_4 h, r_0_5 h, r_0_6 h, r_0_7 h, r_0_8 h, r_0_9 h, i_0_10 h, i_0_11 h, o_0 h, r_36_0 h, r_36_1 h, i_36_2 h, i_36_3 h, i_36_4 h, o_36 h, Ld_saleAt_no h hs hx]
theorem A_saleOf (h : SH σ) (hs : gi σ 36 2 2 = nI ns) (hns : ns ≤ 60) (hS : SalAt σ ns A v) {s : Nat} (hsn : s < ns) (w : Int32) : ax k_A_saleOf 0 [some (.ref 0), some (.int (nI s)), some (.int w), none] [] σ Q = Q (some (.int (if w = 0 then v s 0 else if w = 1 then v s 1 else if w = 2 then v s 2 else if w = 3 then v s 3 else if w = 4 then v s 4 else if w = 5 then v s 5 else if w = 6 then v s 6 else if w = 7 then v s 8 else if w = 8 then v s 10 else if w = 9 then (if v s 11 = 0 then 0 else 1) else if w = 10 then v s 12 else -1))) σ := by
  obtain ⟨e1, e2, e3, e4⟩ := hS s hsn
  have f0 : am_fld σ (A s) 5 0 = some (.int (v s 0)) := fld_get e2
  have f1 : am_fld σ (A s) 5 1 = some (.int (v s 1)) := fld_get e2
  have f2 : am_fld σ (A s) 5 2 = some (.int (v s 2)) := fld_get e2
  have f3 : am_fld σ (A s) 5 3 = some (.int (v s 3)) := fld_get e2
  have f4 : am_fld σ (A s) 5 4 = some (.int (v s 4)) := fld_get e2
  have f5 : am_fld σ (A s) 5 5 = some (.int (v s 5)) := fld_get e2
  have f6 : am_fld σ (A s) 5 6 = some (.int (v s 6)) := fld_get e2
  have f8 : am_fld σ (A s) 5 8 = some (.int (v s 8)) := fld_get e2
  have f10 : am_fld σ (A s) 5 10 = some (.int (v s 10)) := fld_get e2
  have f11 : am_fld σ (A s) 5 11 = some (.int (v s 11)) := fld_get e2
  have f12 : am_fld σ (A s) 5 12 = some (.int (v s 12)) := fld_get e2
  have ob : am_is σ (A s) 5 = True := is_get e2
  simp only [s_A_saleOf_0, s_A_saleOf_1, s_A_saleOf_4, s_A_saleOf_5, s_A_saleOf_8, s_A_saleOf_8n, s_A_saleOf_9, s_A_saleOf_9n, s_A_saleOf_10n, s_A_saleOf_10, s_A_saleOf_13, s_A_saleOf_14, s_A_saleOf_17, s_A_saleOf_17n, s_A_saleOf_18, s_A_saleOf_19, s_A_saleOf_22, s_Sale_tellOf_0, s_Sale_tellOf_1, s_Sale_tellOf_60, s_Sale_tellOf_61, s_Sale_tellOf_64, s_Sale_tellOf_65, s_Sale_tellOf_66, s_Sale_tellOf_69, s_Sale_tellOf_70, s_Sale_tellOf_71, s_Sale_tellOf_74, s_Sale_tellOf_75, s_Sale_tellOf_76, s_Sale_tellOf_79, s_Sale_tellOf_80, s_Sale_tellOf_81, s_Sale_tellOf_84, s_Sale_tellOf_85, s_Sale_tellOf_86, s_Sale_tellOf_89, s_Sale_tellOf_90, s_Sale_tellOf_91, s_Sale_tellOf_94, s_Sale_tellOf_95, s_Sale_tellOf_96, s_Sale_tellOf_99, s_Sale_tellOf_100, s_Sale_tellOf_101, s_Sale_tellOf_104, s_Sale_tellOf_105, s_Sale_tellOf_106, s_Sale_tellOf_109, s_Sale_tellOf_112, s_Sale_tellOf_113, s_Sale_tellOf_116, s_Sale_tellOf_117, s_Sale_tellOf_118, s_Sale_tellOf_119, s_Sale_tellOf_122, s_Sale_tellOf_123, s_Sale_tellOf_124, ↓reduceIte, Nat.reduceEqDiff, Nat.reduceLT, am_top, ax_f_some, ax_k_some, ax_k_none, s8_0, s8_1, s8_2, s8_3, s8_4, c2p_n, c2p_i, c2p_r, c2p_z, okvp_i, okvp_l, okvp_r, okvp_n, okvp_z, okvp_z0, okvp_z1, bi_narp, am_nar0p, am_nar1p, bi_0, bi_1, true_and, and_true, r_0_0 h, r_0_1 h, r_0_2 h, r_0_3 h, r_0_4 h, r_0_5 h, r_0_6 h, r_0_7 h, r_0_8 h, r_0_9 h, i_0_10 h, i_0_11 h, o_0 h, r_36_0 h, r_36_1 h, i_36_2 h, i_36_3 h, i_36_4 h, o_36 h, Ld_saleAt h hs hns hS hsn, ob, f0, f1, f2, f3, f4, f5, f6, f8, f10, f11, f12]
  by_cases d0 : w = 0
  · simp only [if_pos d0]
  · by_cases d1 : w = 1
    · simp only [if_neg d0, if_pos d1]
    · by_cases d2 : w = 2
      · simp only [if_neg d0, if_neg d1, if_pos d2]
      · by_cases d3 : w = 3
        · simp only [if_neg d0, if_neg d1, if_neg d2, if_pos d3]
        · by_cases d4 : w = 4
          · simp only [if_neg d0, if_neg d1, if_neg d2, if_neg d3, if_pos d4]
          · by_cases d5 : w = 5
            · simp only [if_neg d0, if_neg d1, if_neg d2, if_neg d3, if_neg d4, if_pos d5]
            · by_cases d6 : w = 6
              · simp only [if_neg d0, if_neg d1, if_neg d2, if_neg d3, if_neg d4, if_neg d5, if_pos d6]
              · by_cases d7 : w = 7
                · simp only [if_neg d0, if_neg d1, if_neg d2, if_neg d3, if_neg d4, if_neg d5, if_neg d6, if_pos d7]
                · by_cases d8 : w = 8
                  · simp only [if_neg d0, if_neg d1, if_neg d2, if_neg d3, if_neg d4, if_neg d5, if_neg d6, if_neg d7, if_pos d8]
                  · by_cases d9 : w = 9
                    · by_cases ds : v s 11 = 0
                      · simp only [if_neg d0, if_neg d1, if_neg d2, if_neg d3, if_neg d4, if_neg d5, if_neg d6, if_neg d7, if_neg d8, if_pos d9, if_pos ds]
                      · simp only [if_neg d0, if_neg d1, if_neg d2, if_neg d3, if_neg d4, if_neg d5, if_neg d6, if_neg d7, if_neg d8, if_pos d9, if_neg ds]
                    · by_cases d10 : w = 10
                      · simp only [if_neg d0, if_neg d1, if_neg d2, if_neg d3, if_neg d4, if_neg d5, if_neg d6, if_neg d7, if_neg d8, if_neg d9, if_pos d10]
                      · simp only [if_neg d0, if_neg d1, if_neg d2, if_neg d3, if_neg d4, if_neg d5, if_neg d6, if_neg d7, if_neg d8, if_neg d9, if_neg d10]
theorem A_got (h : SH σ) (hs : gi σ 36 2 2 = nI ns) (hns : ns ≤ 60) (hS : SalAt σ ns A v) (x : Int32) : ax k_A_got 0 [some (.ref 0), some (.int x)] [] σ Q = Q (some (.long (if x = -1 then gagF v ns else if ltB x 16 = true then gaiF v x ns else 0))) σ := by
  by_cases c1 : x = -1
  · simp only [s_A_got_0, s_A_got_1, s_A_got_2, s_A_got_5, s_A_got_6, s_A_got_9, s_A_got_12, s_A_got_13, s_A_got_14, s_A_got_17, s_A_got_20, s_A_got_21, s_A_got_24, s_A_got_25, s_A_got_28, s_A_got_31, s_A_got_32, ↓reduceIte, Nat.reduceEqDiff, Nat.reduceLT, am_top, ax_f_some, ax_k_some, ax_k_none, s8_0, s8_1, s8_2, s8_3, s8_4, c2p_n, c2p_i, c2p_r, c2p_z, okvp_i, okvp_l, okvp_r, okvp_n, okvp_z, okvp_z0, okvp_z1, bi_narp, am_nar0p, am_nar1p, bi_0, bi_1, true_and, and_true, r_0_0 h, r_0_1 h, r_0_2 h, r_0_3 h, r_0_4 h, r_0_5 h, r_0_6 h, r_0_7 h, r_0_8 h, r_0_9 h, i_0_10 h, i_0_11 h, o_0 h, r_36_0 h, r_36_1 h, i_36_2 h, i_36_3 h, i_36_4 h, o_36 h, if_pos c1, Ld_gag h hs hns hS]
  · cases c2 : ltB x 16
    · simp only [s_A_got_0, s_A_got_1, s_A_got_2, s_A_got_5, s_A_got_6, s_A_got_9, s_A_got_12, s_A_got_13, s_A_got_14, s_A_got_17, s_A_got_20, s_A_got_21, s_A_got_24, s_A_got_25, s_A_got_28, s_A_got_31, s_A_got_32, ↓reduceIte, Nat.reduceEqDiff, Nat.reduceLT, am_top, ax_f_some, ax_k_some, ax_k_none, s8_0, s8_1, s8_2, s8_3, s8_4, c2p_n, c2p_i, c2p_r, c2p_z, okvp_i, okvp_l, okvp_r, okvp_n, okvp_z, okvp_z0, okvp_z1, bi_narp, am_nar0p, am_nar1p, bi_0, bi_1, true_and, and_true, r_0_0 h, r_0_1 h, r_0_2 h, r_0_3 h, r_0_4 h, r_0_5 h, r_0_6 h, r_0_7 h, r_0_8 h, r_0_9 h, i_0_10 h, i_0_11 h, o_0 h, r_36_0 h, r_36_1 h, i_36_2 h, i_36_3 h, i_36_4 h, o_36 h, if_neg c1, A_isPerson, c2, Bool.false_eq_true]
    · simp only [s_A_got_0, s_A_got_1, s_A_got_2, s_A_got_5, s_A_got_6, s_A_got_9, s_A_got_12, s_A_got_13, s_A_got_14, s_A_got_17, s_A_got_20, s_A_got_21, s_A_got_24, s_A_got_25, s_A_got_28, s_A_got_31, s_A_got_32, ↓reduceIte, Nat.reduceEqDiff, Nat.reduceLT, am_top, ax_f_some, ax_k_some, ax_k_none, s8_0, s8_1, s8_2, s8_3, s8_4, c2p_n, c2p_i, c2p_r, c2p_z, okvp_i, okvp_l, okvp_r, okvp_n, okvp_z, okvp_z0, okvp_z1, bi_narp, am_nar0p, am_nar1p, bi_0, bi_1, true_and, and_true, r_0_0 h, r_0_1 h, r_0_2 h, r_0_3 h, r_0_4 h, r_0_5 h, r_0_6 h, r_0_7 h, r_0_8 h, r_0_9 h, i_0_10 h, i_0_11 h, o_0 h, r_36_0 h, r_36_1 h, i_36_2 h, i_36_3 h, i_36_4 h, o_36 h, if_neg c1, A_isPerson, c2, Ld_gain h hs hns hS, Bool.true_eq_false]
theorem A_print_no (h : SH σ) {q : Nat} (hq : gi σ 36 2 3 = nI q) (hq2 : q ≤ 60) (pic land use size : Int32) (hno : ¬ (aUse σ pic land use size = true ∧ ¬ q = 60)) : ax k_A_print 0 [some (.ref 0), some (.int pic), some (.int land), some (.int use), some (.int size)] [] σ Q = Q (some (.int (-1))) σ := by
  cases c1 : aUse σ pic land use size
  · simp only [s_A_print_0, s_A_print_1, s_A_print_2, s_A_print_3, s_A_print_4, s_A_print_6, s_A_print_9, s_A_print_12, s_A_print_13, s_A_print_16, s_A_print_19, s_A_print_21, s_A_print_24, s_A_print_25, s_A_print_26, s_A_print_27, s_A_print_30, s_A_print_31, s_A_print_34, s_A_print_35, s_A_print_38, s_A_print_39, s_A_print_42, s_A_print_43, s_A_print_44, s_A_print_46, s_A_print_49, s_A_print_52, ↓reduceIte, Nat.reduceEqDiff, Nat.reduceLT, am_top, ax_f_some, ax_k_some, ax_k_none, s8_0, s8_1, s8_2, s8_3, s8_4, c2p_n, c2p_i, c2p_r, c2p_z, okvp_i, okvp_l, okvp_r, okvp_n, okvp_z, okvp_z0, okvp_z1, bi_narp, am_nar0p, am_nar1p, bi_0, bi_1, true_and, and_true, r_0_0 h, r_0_1 h, r_0_2 h, r_0_3 h, r_0_4 h, r_0_5 h, r_0_6 h, r_0_7 h, r_0_8 h, r_0_9 h, i_0_10 h, i_0_11 h, o_0 h, r_36_0 h, r_36_1 h, i_36_2 h, i_36_3 h, i_36_4 h, o_36 h, A_can h, c1]
  · have c2 : q = 60 := Classical.byContradiction fun z => hno ⟨c1, z⟩
    subst c2
    have hc : ¬ nI 60 < nI 60 := Int32.lt_irrefl
    simp only [s_A_print_0, s_A_print_1, s_A_print_2, s_A_print_3, s_A_print_4, s_A_print_6, s_A_print_9, s_A_print_12, s_A_print_13, s_A_print_16, s_A_print_19, s_A_print_21, s_A_print_24, s_A_print_25, s_A_print_26, s_A_print_27, s_A_print_30, s_A_print_31, s_A_print_34, s_A_print_35, s_A_print_38, s_A_print_39, s_A_print_42, s_A_print_43, s_A_print_44, s_A_print_46, s_A_print_49, s_A_print_52, ↓reduceIte, Nat.reduceEqDiff, Nat.reduceLT, am_top, ax_f_some, ax_k_some, ax_k_none, s8_0, s8_1, s8_2, s8_3, s8_4, c2p_n, c2p_i, c2p_r, c2p_z, okvp_i, okvp_l, okvp_r, okvp_n, okvp_z, okvp_z0, okvp_z1, bi_narp, am_nar0p, am_nar1p, bi_0, bi_1, true_and, and_true, r_0_0 h, r_0_1 h, r_0_2 h, r_0_3 h, r_0_4 h, r_0_5 h, r_0_6 h, r_0_7 h, r_0_8 h, r_0_9 h, i_0_10 h, i_0_11 h, o_0 h, r_36_0 h, r_36_1 h, i_36_2 h, i_36_3 h, i_36_4 h, o_36 h, A_can h, c1, hq, e60, hc, Bool.true_eq_false]
/-- a printing is led to a sale, or claimed -/
def aPrt (σ τ : am_H) (A : Nat → Nat) (q cl : Nat) (o : Option Nat) : am_H := o.elim (am_put (am_put (am_set τ 38 (am_ia 0 60 (upd (ga σ 38) q (-1)))) 36 4 (.int (nI (cl + 1)))) 36 3 (.int (nI (q + 1)))) (fun s => am_put (am_put (am_set τ 38 (am_ia 0 60 (upd (ga σ 38) q (nI s)))) (A s) 12 (.int (nI q))) 36 3 (.int (nI (q + 1))))
theorem A_print (h : SH σ) (hp : gi σ 9 0 6 = nI np) (hnp : np ≤ 40) (hs : gi σ 36 2 2 = nI ns) (hns : ns ≤ 60) (hS : SalAt σ ns A v) (hi : i < np) {q cl : Nat} (hq : gi σ 36 2 3 = nI q) (hq2 : q < 60) (hcl : gi σ 36 2 4 = nI cl) (land use size : Int32) (hu : aUse σ (nI i) land use size = true) (hc : (setB σ np i).1 = c) : ax k_A_print 0 [some (.ref 0), some (.int (nI i)), some (.int land), some (.int use), some (.int size)] [] σ Q = Q (some (.int (nI q))) (aPrt σ (aChn σ (setB σ np i).2.1) A q cl (fstR (forB v c land use size) 0 ns)) := by
  have hτ := Scr_chn h (setB σ np i).2.1
  have hlt : nI q < nI 60 := nI_lt hq2 (by omega)
  have g2 : gi (aChn σ (setB σ np i).2.1) 36 2 2 = nI ns := by rw [Scr_gi hτ (by decide) (by decide) (by decide)]; exact hs
  have g3 : gi (aChn σ (setB σ np i).2.1) 36 2 3 = nI q := by rw [Scr_gi hτ (by decide) (by decide) (by decide)]; exact hq
  have g4 : gi (aChn σ (setB σ np i).2.1) 36 2 4 = nI cl := by rw [Scr_gi hτ (by decide) (by decide) (by decide)]; exact hcl
  have a38 : ga (aChn σ (setB σ np i).2.1) 38 = ga σ 38 := Scr_ga hτ (by decide) (by decide) (by decide)
  have hSτ := Sal_scr hτ hS
  have l1 := fun (Q : Option Value → am_H → Prop) => Ld_for (Q := Q) hτ.1 g2 hns hSτ c land use size
  cases c1 : fstR (forB v c land use size) 0 ns with
  | none =>
    have b : ltB (-1) (nI ns) = false := by simp [ltB]
    have l2 := fun (Q : Option Value → am_H → Prop) => Ld_lead_no (Q := Q) hτ.1 g2 g3 hq2 g4 b
    rw [c1] at l1
    rw [a38] at l2
    simp only [s_A_print_0, s_A_print_1, s_A_print_2, s_A_print_3, s_A_print_4, s_A_print_6, s_A_print_9, s_A_print_12, s_A_print_13, s_A_print_16, s_A_print_19, s_A_print_21, s_A_print_24, s_A_print_25, s_A_print_26, s_A_print_27, s_A_print_30, s_A_print_31, s_A_print_34, s_A_print_35, s_A_print_38, s_A_print_39, s_A_print_42, s_A_print_43, s_A_print_44, s_A_print_46, s_A_print_49, s_A_print_52, ↓reduceIte, Nat.reduceEqDiff, Nat.reduceLT, am_top, ax_f_some, ax_k_some, ax_k_none, s8_0, s8_1, s8_2, s8_3, s8_4, c2p_n, c2p_i, c2p_r, c2p_z, okvp_i, okvp_l, okvp_r, okvp_n, okvp_z, okvp_z0, okvp_z1, bi_narp, am_nar0p, am_nar1p, bi_0, bi_1, true_and, and_true, r_0_0 h, r_0_1 h, r_0_2 h, r_0_3 h, r_0_4 h, r_0_5 h, r_0_6 h, r_0_7 h, r_0_8 h, r_0_9 h, i_0_10 h, i_0_11 h, o_0 h, r_9_0 h, r_9_1 h, r_9_2 h, r_9_3 h, r_9_4 h, r_9_5 h, i_9_6 h, i_9_7 h, o_9 h, r_36_0 h, r_36_1 h, i_36_2 h, i_36_3 h, i_36_4 h, o_36 h, r_0_0 hτ.1, r_0_1 hτ.1, r_0_2 hτ.1, r_0_3 hτ.1, r_0_4 hτ.1, r_0_5 hτ.1, r_0_6 hτ.1, r_0_7 hτ.1, r_0_8 hτ.1, r_0_9 hτ.1, i_0_10 hτ.1, i_0_11 hτ.1, o_0 hτ.1, r_36_0 hτ.1, r_36_1 hτ.1, i_36_2 hτ.1, i_36_3 hτ.1, i_36_4 hτ.1, o_36 hτ.1, A_can h, hu, hq, e60, hlt, Al_setOf h hp hnp hi, hc, l1, oI_none, l2, Bool.true_eq_false, aPrt, Option.elim_none]
  | some s =>
    have hr := fstR_in _ _ _ _ c1
    have l2 := fun (Q : Option Value → am_H → Prop) => Ld_lead (Q := Q) hτ.1 g2 hns hSτ g3 hq2 (show s < ns by omega)
    have eo : oI (some s) = nI s := rfl
    rw [c1] at l1
    rw [a38] at l2
    simp only [s_A_print_0, s_A_print_1, s_A_print_2, s_A_print_3, s_A_print_4, s_A_print_6, s_A_print_9, s_A_print_12, s_A_print_13, s_A_print_16, s_A_print_19, s_A_print_21, s_A_print_24, s_A_print_25, s_A_print_26, s_A_print_27, s_A_print_30, s_A_print_31, s_A_print_34, s_A_print_35, s_A_print_38, s_A_print_39, s_A_print_42, s_A_print_43, s_A_print_44, s_A_print_46, s_A_print_49, s_A_print_52, ↓reduceIte, Nat.reduceEqDiff, Nat.reduceLT, am_top, ax_f_some, ax_k_some, ax_k_none, s8_0, s8_1, s8_2, s8_3, s8_4, c2p_n, c2p_i, c2p_r, c2p_z, okvp_i, okvp_l, okvp_r, okvp_n, okvp_z, okvp_z0, okvp_z1, bi_narp, am_nar0p, am_nar1p, bi_0, bi_1, true_and, and_true, r_0_0 h, r_0_1 h, r_0_2 h, r_0_3 h, r_0_4 h, r_0_5 h, r_0_6 h, r_0_7 h, r_0_8 h, r_0_9 h, i_0_10 h, i_0_11 h, o_0 h, r_9_0 h, r_9_1 h, r_9_2 h, r_9_3 h, r_9_4 h, r_9_5 h, i_9_6 h, i_9_7 h, o_9 h, r_36_0 h, r_36_1 h, i_36_2 h, i_36_3 h, i_36_4 h, o_36 h, r_0_0 hτ.1, r_0_1 hτ.1, r_0_2 hτ.1, r_0_3 hτ.1, r_0_4 hτ.1, r_0_5 hτ.1, r_0_6 hτ.1, r_0_7 hτ.1, r_0_8 hτ.1, r_0_9 hτ.1, i_0_10 hτ.1, i_0_11 hτ.1, o_0 hτ.1, r_36_0 hτ.1, r_36_1 hτ.1, i_36_2 hτ.1, i_36_3 hτ.1, i_36_4 hτ.1, o_36 hτ.1, A_can h, hu, hq, e60, hlt, Al_setOf h hp hnp hi, hc, l1, eo, l2, Bool.true_eq_false, aPrt, Option.elim_some]
theorem A_text_no (h : SH σ) (hp : gi σ 9 0 6 = nI np) {x : Int32} (hno : ¬ (ltB x (nI np) = true ∧ (ltB x (nI 40) && decide (ga σ 35 x.toNatClampNeg < 3)) = true)) : ax k_A_text 0 [some (.ref 0), some (.int x), none] [] σ Q = Q (some (.int (-1))) σ := by
  cases c1 : ltB x (nI np)
  · simp only [s_A_text_0, s_A_text_1, s_A_text_4, s_A_text_5, s_A_text_8, s_A_text_11, s_A_text_12, s_A_text_15, s_A_text_16, s_A_text_19, s_A_text_22, s_A_text_23, s_A_text_24, s_A_text_25, s_A_text_28, s_A_text_29, s_A_text_32, s_A_text_35, s_A_text_38, s_A_text_38n, s_A_text_39, s_A_text_40, s_A_text_43, s_A_text_44, s_A_text_47, s_A_text_47n, s_A_text_48n, s_A_text_48, s_A_text_51, s_A_text_52, s_A_text_55, s_A_text_56, s_A_text_59, s_A_text_60, s_A_text_60n, s_A_text_61, s_A_text_64, ↓reduceIte, Nat.reduceEqDiff, Nat.reduceLT, am_top, ax_f_some, ax_k_some, ax_k_none, s8_0, s8_1, s8_2, s8_3, s8_4, c2p_n, c2p_i, c2p_r, c2p_z, okvp_i, okvp_l, okvp_r, okvp_n, okvp_z, okvp_z0, okvp_z1, bi_narp, am_nar0p, am_nar1p, bi_0, bi_1, true_and, and_true, r_0_0 h, r_0_1 h, r_0_2 h, r_0_3 h, r_0_4 h, r_0_5 h, r_0_6 h, r_0_7 h, r_0_8 h, r_0_9 h, i_0_10 h, i_0_11 h, o_0 h, r_9_0 h, r_9_1 h, r_9_2 h, r_9_3 h, r_9_4 h, r_9_5 h, i_9_6 h, i_9_7 h, o_9 h, Al_isPicture h, hp, c1]
  · have c2 : (ltB x (nI 40) && decide (ga σ 35 x.toNatClampNeg < 3)) = false := by
      cases e : (ltB x (nI 40) && decide (ga σ 35 x.toNatClampNeg < 3))
      · rfl
      · exact absurd ⟨c1, e⟩ hno
    simp only [s_A_text_0, s_A_text_1, s_A_text_4, s_A_text_5, s_A_text_8, s_A_text_11, s_A_text_12, s_A_text_15, s_A_text_16, s_A_text_19, s_A_text_22, s_A_text_23, s_A_text_24, s_A_text_25, s_A_text_28, s_A_text_29, s_A_text_32, s_A_text_35, s_A_text_38, s_A_text_38n, s_A_text_39, s_A_text_40, s_A_text_43, s_A_text_44, s_A_text_47, s_A_text_47n, s_A_text_48n, s_A_text_48, s_A_text_51, s_A_text_52, s_A_text_55, s_A_text_56, s_A_text_59, s_A_text_60, s_A_text_60n, s_A_text_61, s_A_text_64, ↓reduceIte, Nat.reduceEqDiff, Nat.reduceLT, am_top, ax_f_some, ax_k_some, ax_k_none, s8_0, s8_1, s8_2, s8_3, s8_4, c2p_n, c2p_i, c2p_r, c2p_z, okvp_i, okvp_l, okvp_r, okvp_n, okvp_z, okvp_z0, okvp_z1, bi_narp, am_nar0p, am_nar1p, bi_0, bi_1, true_and, and_true, r_0_0 h, r_0_1 h, r_0_2 h, r_0_3 h, r_0_4 h, r_0_5 h, r_0_6 h, r_0_7 h, r_0_8 h, r_0_9 h, i_0_10 h, i_0_11 h, o_0 h, r_9_0 h, r_9_1 h, r_9_2 h, r_9_3 h, r_9_4 h, r_9_5 h, i_9_6 h, i_9_7 h, o_9 h, r_33_0 h, r_33_1 h, o_33 h, Al_isPicture h, Sh_hasRoom h, hp, c1, c2, Bool.true_eq_false]
theorem A_text (h : SH σ) (hR : R30 σ) (hC : CST σ) {t : Nat} (ht : gi σ 31 7 1 = nI t) (hle : t ≤ 120) (hT : σ.1 < am_top) (hp : gi σ 9 0 6 = nI np) (hnp : np ≤ 40) (hi : i < np) (hk : k < 3) (hc : ga σ 35 i = nI k) : ax k_A_text 0 [some (.ref 0), some (.int (nI i)), none] [] σ Q = (if (aRd σ t (gi σ 1 9 4)).fl = 0 then Q (some (.int (nI (k + 1)))) (aSh (aTxtS σ (gi σ 1 9 4) (aRd σ t (gi σ 1 9 4))) i k σ.1) else Q (some (.int (-1))) (aTxtS σ (gi σ 1 9 4) (aRd σ t (gi σ 1 9 4)))) := by
  have hN : 83 ≤ σ.1 := h.2.2.2.2.2
  have b1 := ltB_nI hi (show np < 2 ^ 31 by omega)
  have b2 := ltB_nI (show i < 40 by omega) (show 40 < 2 ^ 31 by decide)
  have hcl : (nI i).toNatClampNeg = i := nI_clamp (by omega)
  have lt3 : nI k < nI 3 := nI_lt hk (by omega)
  have b3 : (ltB (nI i) (nI 40) && decide (ga σ 35 (nI i).toNatClampNeg < 3)) = true := by
    rw [b2, hcl, hc, e3]
    simp [lt3]
  have rd := fun (Q : Option Value → am_H → Prop) => R_readTape (Q := Q) (w := gi σ 1 9 4) h hR hC ht hle hT
  generalize aRd σ t (gi σ 1 9 4) = s at rd ⊢
  have hs := SH_aRdS (w := gi σ 1 9 4) h s
  have hs2 : SH (aTxtS σ (gi σ 1 9 4) s) := SH_put_i (ci := 7) hs (by decide) (by decide)
  by_cases c1 : s.fl = 0
  · rw [if_pos c1]
    simp only [if_pos c1] at rd
    have c35 : ga (aTxtS σ (gi σ 1 9 4) s) 35 i = nI k := by
      unfold aTxtS aRdS
      rw [ga_put, ga_set_ne (by decide), ga_new_ne (by omega)]
      exact hc
    have ob : am_is (aTxtS σ (gi σ 1 9 4) s) σ.1 8 := by
      unfold aTxtS aRdS
      rw [is_put, is_set_ne (by omega)]
      exact ⟨_, get_new_eq⟩
    have ad := fun (Q : Option Value → am_H → Prop) => Sh_add (Q := Q) hs2 (show i < 40 by omega) hk c35 ob hT
    have e31 : am_put (aRdS σ (gi σ 1 9 4) s) 31 1 (.int 0) = aTxtS σ (gi σ 1 9 4) s := rfl
    simp only [s_A_text_0, s_A_text_1, s_A_text_4, s_A_text_5, s_A_text_8, s_A_text_11, s_A_text_12, s_A_text_15, s_A_text_16, s_A_text_19, s_A_text_22, s_A_text_23, s_A_text_24, s_A_text_25, s_A_text_28, s_A_text_29, s_A_text_32, s_A_text_35, s_A_text_38, s_A_text_38n, s_A_text_39, s_A_text_40, s_A_text_43, s_A_text_44, s_A_text_47, s_A_text_47n, s_A_text_48n, s_A_text_48, s_A_text_51, s_A_text_52, s_A_text_55, s_A_text_56, s_A_text_59, s_A_text_60, s_A_text_60n, s_A_text_61, s_A_text_64, ↓reduceIte, Nat.reduceEqDiff, Nat.reduceLT, am_top, ax_f_some, ax_k_some, ax_k_none, s8_0, s8_1, s8_2, s8_3, s8_4, c2p_n, c2p_i, c2p_r, c2p_z, okvp_i, okvp_l, okvp_r, okvp_n, okvp_z, okvp_z0, okvp_z1, bi_narp, am_nar0p, am_nar1p, bi_0, bi_1, true_and, and_true, r_0_0 h, r_0_1 h, r_0_2 h, r_0_3 h, r_0_4 h, r_0_5 h, r_0_6 h, r_0_7 h, r_0_8 h, r_0_9 h, i_0_10 h, i_0_11 h, o_0 h, r_9_0 h, r_9_1 h, r_9_2 h, r_9_3 h, r_9_4 h, r_9_5 h, i_9_6 h, i_9_7 h, o_9 h, r_33_0 h, r_33_1 h, o_33 h, r_30_0 h, i_30_1 h, i_30_2 h, i_30_3 h, i_30_5 h, i_30_6 h, i_30_7 h, i_30_8 h, i_30_9 h, i_30_10 h, o_30 h, r_1_0 h, r_1_1 h, r_1_2 h, r_1_3 h, i_1_4 h, o_1 h, r_0_0 hs, r_0_1 hs, r_0_2 hs, r_0_3 hs, r_0_4 hs, r_0_5 hs, r_0_6 hs, r_0_7 hs, r_0_8 hs, r_0_9 hs, i_0_10 hs, i_0_11 hs, o_0 hs, r_31_0 hs, i_31_1 hs, o_31 hs, e31, r_0_0 hs2, r_0_1 hs2, r_0_2 hs2, r_0_3 hs2, r_0_4 hs2, r_0_5 hs2, r_0_6 hs2, r_0_7 hs2, r_0_8 hs2, r_0_9 hs2, i_0_10 hs2, i_0_11 hs2, o_0 hs2, r_33_0 hs2, r_33_1 hs2, o_33 hs2, Al_isPicture h, Sh_hasRoom h, hp, b1, b3, rd, ad, Bool.true_eq_false]
  · rw [if_neg c1]
    simp only [if_neg c1] at rd
    have e31 : am_put (aRdS σ (gi σ 1 9 4) s) 31 1 (.int 0) = aTxtS σ (gi σ 1 9 4) s := rfl
    simp only [s_A_text_0, s_A_text_1, s_A_text_4, s_A_text_5, s_A_text_8, s_A_text_11, s_A_text_12, s_A_text_15, s_A_text_16, s_A_text_19, s_A_text_22, s_A_text_23, s_A_text_24, s_A_text_25, s_A_text_28, s_A_text_29, s_A_text_32, s_A_text_35, s_A_text_38, s_A_text_38n, s_A_text_39, s_A_text_40, s_A_text_43, s_A_text_44, s_A_text_47, s_A_text_47n, s_A_text_48n, s_A_text_48, s_A_text_51, s_A_text_52, s_A_text_55, s_A_text_56, s_A_text_59, s_A_text_60, s_A_text_60n, s_A_text_61, s_A_text_64, ↓reduceIte, Nat.reduceEqDiff, Nat.reduceLT, am_top, ax_f_some, ax_k_some, ax_k_none, s8_0, s8_1, s8_2, s8_3, s8_4, c2p_n, c2p_i, c2p_r, c2p_z, okvp_i, okvp_l, okvp_r, okvp_n, okvp_z, okvp_z0, okvp_z1, bi_narp, am_nar0p, am_nar1p, bi_0, bi_1, true_and, and_true, r_0_0 h, r_0_1 h, r_0_2 h, r_0_3 h, r_0_4 h, r_0_5 h, r_0_6 h, r_0_7 h, r_0_8 h, r_0_9 h, i_0_10 h, i_0_11 h, o_0 h, r_9_0 h, r_9_1 h, r_9_2 h, r_9_3 h, r_9_4 h, r_9_5 h, i_9_6 h, i_9_7 h, o_9 h, r_33_0 h, r_33_1 h, o_33 h, r_30_0 h, i_30_1 h, i_30_2 h, i_30_3 h, i_30_5 h, i_30_6 h, i_30_7 h, i_30_8 h, i_30_9 h, i_30_10 h, o_30 h, r_1_0 h, r_1_1 h, r_1_2 h, r_1_3 h, i_1_4 h, o_1 h, r_0_0 hs, r_0_1 hs, r_0_2 hs, r_0_3 hs, r_0_4 hs, r_0_5 hs, r_0_6 hs, r_0_7 hs, r_0_8 hs, r_0_9 hs, i_0_10 hs, i_0_11 hs, o_0 hs, r_31_0 hs, i_31_1 hs, o_31 hs, e31, Al_isPicture h, Sh_hasRoom h, hp, b1, b3, rd, Bool.true_eq_false]
end B4
