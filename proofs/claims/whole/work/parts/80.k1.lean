/-! THE CALLS ON BOTH SIDES, 1 -/
theorem ltB_in {n : Nat} (hn : n ≤ 100000) (x : Int32) : ltB x (nI n) = inB x 0 (nI n - 1) := by
  apply bool_ext
  constructor
  · intro h
    obtain ⟨j, hj, rfl⟩ := ltB_ix (by omega) h
    exact inB_nI (by omega) hj
  · intro h
    obtain ⟨j, hj, rfl⟩ := inB_ix (N := 100000) hn (by decide) h
    exact ltB_nI hj (by omega)
theorem ltB_16 (x : Int32) : ltB x 16 = inB x 0 15 := ltB_in (n := 16) (by decide) x
theorem ltB_5 (x : Int32) : ltB x 5 = inB x 0 4 := ltB_in (n := 5) (by decide) x
theorem ltB_10 (x : Int32) : ltB x 10 = inB x 0 9 := ltB_in (n := 10) (by decide) x
theorem ltB_64k (x : Int32) : ltB x 65536 = inB x 0 65535 := ltB_in (n := 65536) (by decide) x
theorem inW_of {n : Nat} (hn : n ≤ 40) {i : Int32} (h : i = -1 ∨ ltB i (nI n) = true) : inW n i := by
  rcases h with h | h
  · exact Or.inl h
  · exact Or.inr (ltB_ix (by omega) h)
section K1
variable {L : Nat} {xs : Nat → Int32} {σ : am_H}
theorem c_minute (I : INV L xs σ) (m : Int32) : CA L xs .int σ (fun K => ax k_A_minute 0 [some (.ref 0), some (.int m)] [] σ K) (fun σ1 K => ax k_M_minute 0 [some (.ref 40), some (.int m)] [] σ1 K) := by
  intro K K2 h1 h2
  dsimp only at h1
  have I' := I
  obtain ⟨⟨hS, hR, hH⟩, hk, n, nt, p, np, nc, nl, ne, t, ns, q, fp, fw, W, P, C, Lv, E, T, Fa, R, X, S, U⟩ := I'
  have ec : (inB m 0 100000 = true ∧ ¬ m < gi σ 0 10 11) ↔ inB m (gi σ 40 11 0) 100000 = true := by
    rw [hk.1]
    have := hk.2
    simp only [inB, Bool.and_eq_true, Bool.not_eq_true', decide_eq_false_iff_not] at this ⊢
    constructor
    · rintro ⟨⟨a, b⟩, c⟩
      exact ⟨c, b⟩
    · rintro ⟨a, b⟩
      exact ⟨⟨fun z => a (Int32.lt_of_lt_of_le z (Int32.not_lt.mp this.1)), b⟩, a⟩
  show ax k_A_minute 0 _ [] σ K
  rw [A_minute hS]
  by_cases c : inB m 0 100000 = true ∧ ¬ m < gi σ 0 10 11
  · rw [if_pos c]
    have hc : ¬ m < gi σ 40 11 0 := by rw [← hk.1]; exact c.2
    have F : FM [] [(0, 11), (40, 0)] [] σ (am_put σ 0 11 (.int m)) := FM_p 10 (FM_refl hS) (by decide)
    have F2 : FM [] [(0, 11), (40, 0)] [] σ (am_put (am_put σ 0 11 (.int m)) 40 0 (.int m)) := FM_p 11 F (by decide)
    have e0 : gi (am_put σ 0 11 (.int m)) 40 11 0 = gi σ 40 11 0 := gi_put_ne (by decide)
    rw [h1 _ _ F.1 (HI_fr F hH), M_minute 40 (by decide) m _ (i_40_0 F.1), e0, if_pos (ec.mp c)]
    refine h2 _ _ ⟨⟨F2.1, R30_fr F2 (by decide) hR, HI_fr F2 hH⟩, ?_, n, nt, p, np, nc, nl, ne, t, ns, q, fp, fw, ?_, ?_, ?_, Ilv_fr F2 (by decide) Lv, Iem_fr F2 (by decide) E, Itp_fr F2 (by decide) T, Ift_fr F2 (by decide) Fa, Irt_fr F2 (by decide) R, TXS_fr F2 (by decide) (fun B s hB => by simp at hB) X, Isl_fr F2 (by decide) (Nat.le_refl _) P.2.1.1 (fun i _ => by rw [ga_fr F2 (by decide) (by decide)]) S, Ipr_fr F2 (by decide) U⟩ (by constructor <;> simp only [ put_1, put_2, set_1, set_2] <;> omega)
    · simp only [Ick, gi_put_ne, gi_put_k, gi_put_o, gi_set_ne, ga_put, ga_set_ne, ga_set_eq, gL_put, gL_set_ne, gL_set_eq, gq_put, gq_set_ne, gq_set_eq, fld_set_ne, fld_put_ne, fld_put_k, fld_put_same, Option.map_some, Option.elim_some, Nat.reduceEqDiff, not_false_eq_true, i_40_0 hS, i_0_11 hS, true_and]
      exact c.1
    · simp only [Iwd, gi_put_ne, gi_put_k, gi_put_o, gi_set_ne, ga_put, ga_set_ne, ga_set_eq, gL_put, gL_set_ne, gL_set_eq, gq_put, gq_set_ne, gq_set_eq, fld_set_ne, fld_put_ne, fld_put_k, fld_put_same, Option.map_some, Option.elim_some, Nat.reduceEqDiff, not_false_eq_true, i_40_0 hS]
      exact ⟨W.1, BW_clk W.2.1 hc, W.2.2⟩
    · simp only [Ipc, gi_put_ne, gi_put_k, gi_put_o, gi_set_ne, ga_put, ga_set_ne, ga_set_eq, gL_put, gL_set_ne, gL_set_eq, gq_put, gq_set_ne, gq_set_eq, fld_set_ne, fld_put_ne, fld_put_k, fld_put_same, Option.map_some, Option.elim_some, Nat.reduceEqDiff, not_false_eq_true, i_40_0 hS]
      exact ⟨P.1, BP_clk P.2.1 hc, P.2.2⟩
    · simp only [Icp, gi_put_ne, gi_put_k, gi_put_o, gi_set_ne, ga_put, ga_set_ne, ga_set_eq, gL_put, gL_set_ne, gL_set_eq, gq_put, gq_set_ne, gq_set_eq, fld_set_ne, fld_put_ne, fld_put_k, fld_put_same, Option.map_some, Option.elim_some, Nat.reduceEqDiff, not_false_eq_true, i_40_0 hS]
      exact ⟨C.1, BC_clk C.2 hc⟩
  · rw [if_neg c, h1 _ _ hS hH, M_minute 40 (by decide) m _ (i_40_0 hS), if_neg (fun z => c (ec.mpr z))]
    exact h2 _ _ I (Gr_refl σ)
theorem c_within (I : INV L xs σ) (w m : Int32) : CA L xs .int σ (fun K => ax k_A_within 0 [some (.ref 0), some (.int w), some (.int m)] [] σ K) (fun σ1 K => ax k_M_within 0 [some (.ref 40), some (.int w), some (.int m)] [] σ1 K) := by
  intro K K2 h1 h2
  dsimp only at h1
  have I' := I
  obtain ⟨⟨hS, hR, hH⟩, hk, n, nt, p, np, nc, nl, ne, t, ns, q, fp, fw, W, P, C, Lv, E, T, Fa, R, X, S, U⟩ := I'
  obtain ⟨⟨⟨w1, w2⟩, ⟨w3, w4⟩, w5⟩, B, -⟩ := W
  show ax k_A_within 0 _ [] σ K
  have hn := B.1
  rw [A_within hS w1 hn.1 w3 hn.2.1, h1 _ _ hS hH, M_within hS w5 (by omega)]
  have e : (if inB m 0 (gi σ 0 10 11) = true ∧ ltB w (nI n) = true then aLies σ nt w.toNatClampNeg m else -1) = (if inB w 0 (gi σ 40 11 1 - 1) = true ∧ inB m 0 (gi σ 40 11 0) = true then mLies σ p m w else -1) := by
    rw [hk.1, w2, ← ltB_in (by omega) w]
    by_cases c1 : ltB w (nI n) = true
    · obtain ⟨j, hj, rfl⟩ := ltB_ix (by omega) c1
      by_cases c2 : inB m 0 (gi σ 40 11 0) = true
      · rw [if_pos ⟨c2, c1⟩, if_pos ⟨c1, c2⟩, nI_clamp (by omega)]
        exact (B.2.1 j hj m).symm
      · rw [if_neg (fun z => c2 z.1), if_neg (fun z => c2 z.2)]
    · rw [if_neg (fun z => c1 z.2), if_neg (fun z => c1 z.1)]
  rw [e]
  exact h2 _ _ I (Gr_refl σ)
theorem M_word_no (h : SH σ) {nw : Nat} {Q : Option Value → am_H → Prop} (hw : gi σ 40 11 1 = nI nw) (hnw : nw ≤ 40) (i : Int32) (hno : ¬ ((i = -1 ∨ inB i 0 (nI nw - 1) = true) ∧ ¬ nw = 40)) : ax k_M_word 0 [some (.ref 40), some (.int i)] [] σ Q = Q (some (.int (-1))) σ := by
  by_cases h3 : nw = 40
  · subst h3
    by_cases h1 : i = -1
    · simp only [s_M_word_0, s_M_word_1, s_M_word_2, s_M_word_5, s_M_word_6, s_M_word_7, s_M_word_10, s_M_word_13, s_M_word_14, s_M_word_17, s_M_word_19, s_M_word_22, s_M_word_23, s_M_word_24, s_M_word_25, s_M_word_26, s_M_word_29, s_M_word_30, s_M_word_33, s_M_word_34, s_M_word_35, s_M_word_38, s_M_word_39, s_M_word_40, s_M_word_43, s_M_word_44, s_M_word_47, s_M_word_48, s_M_word_49, ↓reduceIte, Nat.reduceEqDiff, Nat.reduceLT, am_top, ax_f_some, ax_k_some, ax_k_none, s8_0, s8_1, s8_2, s8_3, s8_4, c2p_n, c2p_i, c2p_r, c2p_z, okvp_i, okvp_l, okvp_r, okvp_n, okvp_z, okvp_z0, okvp_z1, bi_narp, am_nar0p, am_nar1p, bi_0, bi_1, true_and, and_true, i_40_0 h, i_40_1 h, i_40_2 h, i_40_3 h, r_40_4 h, r_40_5 h, r_40_6 h, i_40_7 h, r_40_8 h, r_40_9 h, r_40_10 h, r_40_11 h, r_40_12 h, i_40_13 h, r_40_14 h, r_40_15 h, r_40_16 h, r_40_17 h, i_40_18 h, i_40_19 h, r_40_20 h, r_40_21 h, r_40_22 h, i_40_23 h, r_40_24 h, r_40_25 h, r_40_26 h, r_40_27 h, r_40_28 h, i_40_29 h, r_40_30 h, r_40_31 h, r_40_32 h, r_40_33 h, r_40_34 h, r_40_35 h, r_40_36 h, r_40_37 h, i_40_38 h, i_40_39 h, i_40_40 h, i_40_41 h, i_40_42 h, i_40_43 h, i_40_44 h, i_40_45 h, r_40_46 h, r_40_47 h, r_40_48 h, r_40_49 h, r_40_50 h, r_40_51 h, r_40_52 h, r_40_53 h, r_40_54 h, r_40_55 h, r_40_56 h, r_40_57 h, r_40_58 h, i_40_59 h, i_40_60 h, r_40_61 h, o_40 h, hw, M_isWord 40 _ _ (i_40_1 h), h1, e40]
    · cases h2 : inB i 0 (nI 40 - 1)
      · simp only [s_M_word_0, s_M_word_1, s_M_word_2, s_M_word_5, s_M_word_6, s_M_word_7, s_M_word_10, s_M_word_13, s_M_word_14, s_M_word_17, s_M_word_19, s_M_word_22, s_M_word_23, s_M_word_24, s_M_word_25, s_M_word_26, s_M_word_29, s_M_word_30, s_M_word_33, s_M_word_34, s_M_word_35, s_M_word_38, s_M_word_39, s_M_word_40, s_M_word_43, s_M_word_44, s_M_word_47, s_M_word_48, s_M_word_49, ↓reduceIte, Nat.reduceEqDiff, Nat.reduceLT, am_top, ax_f_some, ax_k_some, ax_k_none, s8_0, s8_1, s8_2, s8_3, s8_4, c2p_n, c2p_i, c2p_r, c2p_z, okvp_i, okvp_l, okvp_r, okvp_n, okvp_z, okvp_z0, okvp_z1, bi_narp, am_nar0p, am_nar1p, bi_0, bi_1, true_and, and_true, i_40_0 h, i_40_1 h, i_40_2 h, i_40_3 h, r_40_4 h, r_40_5 h, r_40_6 h, i_40_7 h, r_40_8 h, r_40_9 h, r_40_10 h, r_40_11 h, r_40_12 h, i_40_13 h, r_40_14 h, r_40_15 h, r_40_16 h, r_40_17 h, i_40_18 h, i_40_19 h, r_40_20 h, r_40_21 h, r_40_22 h, i_40_23 h, r_40_24 h, r_40_25 h, r_40_26 h, r_40_27 h, r_40_28 h, i_40_29 h, r_40_30 h, r_40_31 h, r_40_32 h, r_40_33 h, r_40_34 h, r_40_35 h, r_40_36 h, r_40_37 h, i_40_38 h, i_40_39 h, i_40_40 h, i_40_41 h, i_40_42 h, i_40_43 h, i_40_44 h, i_40_45 h, r_40_46 h, r_40_47 h, r_40_48 h, r_40_49 h, r_40_50 h, r_40_51 h, r_40_52 h, r_40_53 h, r_40_54 h, r_40_55 h, r_40_56 h, r_40_57 h, r_40_58 h, i_40_59 h, i_40_60 h, r_40_61 h, o_40 h, hw, M_isWord 40 _ _ (i_40_1 h), h1, h2, e40]
      · simp only [s_M_word_0, s_M_word_1, s_M_word_2, s_M_word_5, s_M_word_6, s_M_word_7, s_M_word_10, s_M_word_13, s_M_word_14, s_M_word_17, s_M_word_19, s_M_word_22, s_M_word_23, s_M_word_24, s_M_word_25, s_M_word_26, s_M_word_29, s_M_word_30, s_M_word_33, s_M_word_34, s_M_word_35, s_M_word_38, s_M_word_39, s_M_word_40, s_M_word_43, s_M_word_44, s_M_word_47, s_M_word_48, s_M_word_49, ↓reduceIte, Nat.reduceEqDiff, Nat.reduceLT, am_top, ax_f_some, ax_k_some, ax_k_none, s8_0, s8_1, s8_2, s8_3, s8_4, c2p_n, c2p_i, c2p_r, c2p_z, okvp_i, okvp_l, okvp_r, okvp_n, okvp_z, okvp_z0, okvp_z1, bi_narp, am_nar0p, am_nar1p, bi_0, bi_1, true_and, and_true, i_40_0 h, i_40_1 h, i_40_2 h, i_40_3 h, r_40_4 h, r_40_5 h, r_40_6 h, i_40_7 h, r_40_8 h, r_40_9 h, r_40_10 h, r_40_11 h, r_40_12 h, i_40_13 h, r_40_14 h, r_40_15 h, r_40_16 h, r_40_17 h, i_40_18 h, i_40_19 h, r_40_20 h, r_40_21 h, r_40_22 h, i_40_23 h, r_40_24 h, r_40_25 h, r_40_26 h, r_40_27 h, r_40_28 h, i_40_29 h, r_40_30 h, r_40_31 h, r_40_32 h, r_40_33 h, r_40_34 h, r_40_35 h, r_40_36 h, r_40_37 h, i_40_38 h, i_40_39 h, i_40_40 h, i_40_41 h, i_40_42 h, i_40_43 h, i_40_44 h, i_40_45 h, r_40_46 h, r_40_47 h, r_40_48 h, r_40_49 h, r_40_50 h, r_40_51 h, r_40_52 h, r_40_53 h, r_40_54 h, r_40_55 h, r_40_56 h, r_40_57 h, r_40_58 h, i_40_59 h, i_40_60 h, r_40_61 h, o_40 h, hw, M_isWord 40 _ _ (i_40_1 h), h1, h2, e40, Bool.true_eq_false]
  · have h1 : ¬ i = -1 := fun z => hno ⟨Or.inl z, h3⟩
    have h2 : inB i 0 (nI nw - 1) = false := by
      cases hh : inB i 0 (nI nw - 1)
      · rfl
      · exact absurd ⟨Or.inr hh, h3⟩ hno
    simp only [s_M_word_0, s_M_word_1, s_M_word_2, s_M_word_5, s_M_word_6, s_M_word_7, s_M_word_10, s_M_word_13, s_M_word_14, s_M_word_17, s_M_word_19, s_M_word_22, s_M_word_23, s_M_word_24, s_M_word_25, s_M_word_26, s_M_word_29, s_M_word_30, s_M_word_33, s_M_word_34, s_M_word_35, s_M_word_38, s_M_word_39, s_M_word_40, s_M_word_43, s_M_word_44, s_M_word_47, s_M_word_48, s_M_word_49, ↓reduceIte, Nat.reduceEqDiff, Nat.reduceLT, am_top, ax_f_some, ax_k_some, ax_k_none, s8_0, s8_1, s8_2, s8_3, s8_4, c2p_n, c2p_i, c2p_r, c2p_z, okvp_i, okvp_l, okvp_r, okvp_n, okvp_z, okvp_z0, okvp_z1, bi_narp, am_nar0p, am_nar1p, bi_0, bi_1, true_and, and_true, i_40_0 h, i_40_1 h, i_40_2 h, i_40_3 h, r_40_4 h, r_40_5 h, r_40_6 h, i_40_7 h, r_40_8 h, r_40_9 h, r_40_10 h, r_40_11 h, r_40_12 h, i_40_13 h, r_40_14 h, r_40_15 h, r_40_16 h, r_40_17 h, i_40_18 h, i_40_19 h, r_40_20 h, r_40_21 h, r_40_22 h, i_40_23 h, r_40_24 h, r_40_25 h, r_40_26 h, r_40_27 h, r_40_28 h, i_40_29 h, r_40_30 h, r_40_31 h, r_40_32 h, r_40_33 h, r_40_34 h, r_40_35 h, r_40_36 h, r_40_37 h, i_40_38 h, i_40_39 h, i_40_40 h, i_40_41 h, i_40_42 h, i_40_43 h, i_40_44 h, i_40_45 h, r_40_46 h, r_40_47 h, r_40_48 h, r_40_49 h, r_40_50 h, r_40_51 h, r_40_52 h, r_40_53 h, r_40_54 h, r_40_55 h, r_40_56 h, r_40_57 h, r_40_58 h, i_40_59 h, i_40_60 h, r_40_61 h, o_40 h, hw, M_isWord 40 _ _ (i_40_1 h), h1, h2]
theorem c_word (I : INV L xs σ) (i : Int32) : CA L xs .int σ (fun K => ax k_A_word 0 [some (.ref 0), some (.int i)] [] σ K) (fun σ1 K => ax k_M_word 0 [some (.ref 40), some (.int i)] [] σ1 K) := by
  intro K K2 h1 h2
  dsimp only at h1
  have I' := I
  obtain ⟨⟨hS, hR, hH⟩, hk, n, nt, p, np, nc, nl, ne, t, ns, q, fp, fw, W, P, C, Lv, E, T, Fa, R, X, S, U⟩ := I'
  obtain ⟨⟨⟨w1, w2⟩, ⟨w3, w4⟩, w5⟩, B, Ee⟩ := W
  have hn := B.1
  show ax k_A_word 0 _ [] σ K
  rw [A_word hS w1 hn.1]
  by_cases c : (i = -1 ∨ ltB i (nI n) = true) ∧ ¬ n = 40
  · have hi : inW n i := inW_of hn.1 c.1
    have F : FM [2, 3, 41, 42, 43] [(1, 4), (40, 2), (40, 1)] [] σ (aWord σ n i (gi σ 0 10 11)) := FM_p 9 (FM_j (FM_j (FM_refl hS) (by decide)) (by decide)) (by decide)
    have F2 : FM [2, 3, 41, 42, 43] [(1, 4), (40, 2), (40, 1)] [] σ (am_put (mKeep (aWord σ n i (gi σ 0 10 11)) p (nI n) i) 40 1 (.int (nI (n + 1)))) := FM_p 11 (FM_p 11 (FM_j (FM_j (FM_j F (by decide)) (by decide)) (by decide)) (by decide)) (by decide)
    have e5 : gi (aWord σ n i (gi σ 0 10 11)) 40 11 2 = nI p := by simp only [aWord, gi_put_ne, gi_put_k, gi_put_o, gi_set_ne, ga_put, ga_set_ne, ga_set_eq, gL_put, gL_set_ne, gL_set_eq, gq_put, gq_set_ne, gq_set_eq, fld_set_ne, fld_put_ne, fld_put_k, fld_put_same, Option.map_some, Option.elim_some, Nat.reduceEqDiff, not_false_eq_true]; exact w5
    have e2 : gi (aWord σ n i (gi σ 0 10 11)) 40 11 1 = nI n := by simp only [aWord, gi_put_ne, gi_put_k, gi_put_o, gi_set_ne, ga_put, ga_set_ne, ga_set_eq, gL_put, gL_set_ne, gL_set_eq, gq_put, gq_set_ne, gq_set_eq, fld_set_ne, fld_put_ne, fld_put_k, fld_put_same, Option.map_some, Option.elim_some, Nat.reduceEqDiff, not_false_eq_true]; exact w2
    rw [if_pos c, h1 _ _ F.1 (HI_fr F hH), M_word F.1 e5 (by omega) e2 hn.1, if_pos (by rw [← ltB_in (by omega) i]; exact c)]
    refine h2 _ _ ⟨⟨F2.1, R30_fr F2 (by decide) hR, HI_fr F2 hH⟩, Ick_fr F2 (by decide) hk, n + 1, nt, p + 1, np, nc, nl, ne, t, ns, q, fp, fw, ?_, Ipc_fr F2 (by decide) P, ?_, Ilv_fr F2 (by decide) Lv, Iem_fr F2 (by decide) E, Itp_fr F2 (by decide) T, Ift_fr F2 (by decide) Fa, Irt_fr F2 (by decide) R, TXS_fr F2 (by decide) (fun B s hB => by simp at hB) X, Isl_fr F2 (by decide) (Nat.le_refl _) P.2.1.1 (fun i _ => by rw [ga_fr F2 (by decide) (by decide)]) S, Ipr_fr F2 (by decide) U⟩ (by constructor <;> simp only [mKeep, aWord, put_1, put_2, set_1, set_2] <;> omega)
    · simp only [Iwd, mKeep, aWord, gi_put_ne, gi_put_k, gi_put_o, gi_set_ne, ga_put, ga_set_ne, ga_set_eq, gL_put, gL_set_ne, gL_set_eq, gq_put, gq_set_ne, gq_set_eq, fld_set_ne, fld_put_ne, fld_put_k, fld_put_same, Option.map_some, Option.elim_some, Nat.reduceEqDiff, not_false_eq_true, i_40_0 hS, i_40_1 hS, i_40_2 hS, i_1_4 hS, hk.1]
      exact ⟨⟨⟨(by trivial), (by trivial)⟩, ⟨w3, w4⟩, (by trivial)⟩, BW_word B (by omega) hi, BE_word B Ee (by omega) hi⟩
    · have C2 := Icp_fr F2 (by decide) C
      exact ⟨C2.1, BC_up C2.2 (by omega) (Nat.le_refl _) (fun _ _ => rfl)⟩
  · rw [if_neg c, h1 _ _ hS hH, M_word_no hS w2 hn.1 i (by rw [← ltB_in (by omega) i]; exact c)]
    exact h2 _ _ I (Gr_refl σ)
end K1
