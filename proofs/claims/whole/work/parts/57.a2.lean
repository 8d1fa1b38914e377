/-! THE CLASS, 17: why, by, sale, print -/
def AOk (σ : am_H) (n nt np nl ne ns : Nat) (A : Nat → Nat) (v : Nat → Nat → Int32) : Prop := SH σ ∧ (gi σ 1 9 4 = nI n ∧ n ≤ 40) ∧ (gi σ 5 3 3 = nI nt ∧ nt ≤ 100) ∧ (gi σ 9 0 6 = nI np ∧ np ≤ 40) ∧ (gi σ 22 3 3 = nI nl ∧ nl ≤ 100) ∧ (gi σ 26 3 3 = nI ne ∧ ne ≤ 100) ∧ (gi σ 36 2 2 = nI ns ∧ ns ≤ 60) ∧ SalAt σ ns A v
theorem oI_none : oI none = -1 := rfl
theorem oI_some {k : Nat} (hk : k < 2 ^ 31) : ¬ oI (some k) = -1 := by
  have e0 : ¬ nI k < 0 := nI_pos hk
  intro z
  have z' : nI k = -1 := z
  rw [z'] at e0
  exact e0 (by decide)
section B2
variable {σ τ : am_H} {Q : Option Value → am_H → Prop} {n nt np nl ne ns : Nat} {A : Nat → Nat} {v : Nat → Nat → Int32} {i k : Nat} {tm : Nat → RS} {ch c : Int64}
theorem Sal_scr (h : Scr σ τ) (hS : SalAt σ ns A v) : SalAt τ ns A v := by
  intro s hs
  obtain ⟨e1, e2, e3, e4⟩ := hS s hs
  exact ⟨by rw [Scr_gq h (by decide) (by decide) (by decide)]; exact e1, by rw [h.2.2.2 _ (by omega) (by omega) (by omega)]; exact e2, e3, e4⟩
theorem Txt_scr (h : Scr σ τ) (hX : TxtAt σ i k tm) : TxtAt τ i k tm := by
  obtain ⟨h1, h2, h3⟩ := hX
  refine ⟨h1, by rw [Scr_ga h (by decide) (by decide) (by decide)]; exact h2, fun j hj => ?_⟩
  obtain ⟨B, b1, b2, b3⟩ := h3 j hj
  exact ⟨B, by rw [Scr_gq h (by decide) (by decide) (by decide)]; exact b1, by rw [h.2.2.2 _ (by omega) (by omega) (by omega)]; exact b2, b3⟩
theorem AOk_scr (h : Scr σ τ) (H : AOk σ n nt np nl ne ns A v) : AOk τ n nt np nl ne ns A v := by
  obtain ⟨-, h1, h2, h3, h4, h5, h6, h7⟩ := H
  refine ⟨h.1, ?_, ?_, ?_, ?_, ?_, ?_, Sal_scr h h7⟩
  · rw [Scr_gi h (by decide) (by decide) (by decide)]; exact h1
  · rw [Scr_gi h (by decide) (by decide) (by decide)]; exact h2
  · rw [Scr_gi h (by decide) (by decide) (by decide)]; exact h3
  · rw [Scr_gi h (by decide) (by decide) (by decide)]; exact h4
  · rw [Scr_gi h (by decide) (by decide) (by decide)]; exact h5
  · rw [Scr_gi h (by decide) (by decide) (by decide)]; exact h6
theorem A_textAg (H : AOk σ n nt np nl ne ns A v) (hX : TxtAt σ i k tm) (hi : i < np) (land use size be : Int32) (hch : clR (rcF σ n nt (gi σ 0 10 11)) n 40 be 0 = ch) (hQ : ∀ τ, Scr σ τ → Q (some (.int (oI (fstR (txtB k tm land use size (gi σ 0 10 11) ch) 0 3)))) τ) : ax k_A_textAgainst 0 [some (.ref 0), some (.int (nI i)), some (.int land), some (.int use), some (.int size), some (.int be), none, none, none, none] [] σ Q := by
  obtain ⟨h, ⟨hn, hle⟩, ⟨ht, hnt⟩, ⟨hp, hnp⟩, -⟩ := H
  have hs := Scr_par h (rcF σ n nt (gi σ 0 10 11))
  have hl := A_text_loop (Q := Q) hs.1 (show i < 40 by omega) (Txt_scr hs hX) land use size be ch 3 0 (by omega) none
  rw [nI_0, Scr_gi hs (by decide) (by decide) (by decide)] at hl
  have g := hQ _ hs
  rw [← hl] at g
  simp only [s_A_textAgainst_0, s_A_textAgainst_1, s_A_textAgainst_4, s_A_textAgainst_6, s_A_textAgainst_7, s_A_textAgainst_10, s_A_textAgainst_13, s_A_textAgainst_15, s_A_textAgainst_16, s_A_textAgainst_20, s_A_textAgainst_21, s_A_textAgainst_24, s_A_textAgainst_25, s_A_textAgainst_28, s_A_textAgainst_29, s_A_textAgainst_31, s_A_textAgainst_34, s_A_textAgainst_34n, s_A_textAgainst_36, s_A_textAgainst_36n, s_A_textAgainst_38n, s_A_textAgainst_38, s_A_textAgainst_41, s_A_textAgainst_41n, s_A_textAgainst_43, s_A_textAgainst_44, s_A_textAgainst_45, s_A_textAgainst_47, s_A_textAgainst_48, s_A_textAgainst_51, s_A_textAgainst_53, s_A_textAgainst_56, s_A_textAgainst_59, s_A_textAgainst_61, s_A_textAgainst_62, s_A_textAgainst_65, s_A_textAgainst_68, s_A_textAgainst_69, ↓reduceIte, Nat.reduceEqDiff, Nat.reduceLT, am_top, ax_f_some, ax_k_some, ax_k_none, s8_0, s8_1, s8_2, s8_3, s8_4, c2p_n, c2p_i, c2p_r, c2p_z, okvp_i, okvp_l, okvp_r, okvp_n, okvp_z, okvp_z0, okvp_z1, bi_narp, am_nar0p, am_nar1p, bi_0, bi_1, true_and, and_true, r_0_0 h, r_0_1 h, r_0_2 h, r_0_3 h, r_0_4 h, r_0_5 h, r_0_6 h, r_0_7 h, r_0_8 h, r_0_9 h, i_0_10 h, i_0_11 h, o_0 h, r_1_0 h, r_1_1 h, r_1_2 h, r_1_3 h, i_1_4 h, o_1 h, T_chainOf h hn hle ht hnt, hch]
  exact g
theorem A_saleAg (H : AOk σ n nt np nl ne ns A v) (hi : i < np) (land : Int32) (hc : (setB σ np i).1 = c) (hQ : ∀ τ, Scr σ τ → Q (some (.int (oI (fstR (shutB v c land (gi σ 0 10 11)) 0 ns)))) τ) : ax k_A_saleAgainst 0 [some (.ref 0), some (.int (nI i)), some (.int land)] [] σ Q := by
  obtain ⟨h, ⟨hn, hle⟩, ⟨ht, hnt⟩, ⟨hp, hnp⟩, -, -, ⟨hs, hns⟩, hS⟩ := H
  have hs1 := Scr_chn h (setB σ np i).2.1
  have g := hQ _ hs1
  have g2 : gi (aChn σ (setB σ np i).2.1) 36 2 2 = nI ns := by rw [Scr_gi hs1 (by decide) (by decide) (by decide)]; exact hs
  have g3 : gi (aChn σ (setB σ np i).2.1) 0 10 11 = gi σ 0 10 11 := Scr_gi hs1 (by decide) (by decide) (by decide)
  have l1 := fun (Q : Option Value → am_H → Prop) => Ld_shut (Q := Q) hs1.1 g2 hns (Sal_scr hs1 hS) c land (gi σ 0 10 11)
  simp only [s_A_saleAgainst_0, s_A_saleAgainst_1, s_A_saleAgainst_4, s_A_saleAgainst_5, s_A_saleAgainst_8, s_A_saleAgainst_9, s_A_saleAgainst_12, s_A_saleAgainst_13, s_A_saleAgainst_14, s_A_saleAgainst_17, s_A_saleAgainst_20, ↓reduceIte, Nat.reduceEqDiff, Nat.reduceLT, am_top, ax_f_some, ax_k_some, ax_k_none, s8_0, s8_1, s8_2, s8_3, s8_4, c2p_n, c2p_i, c2p_r, c2p_z, okvp_i, okvp_l, okvp_r, okvp_n, okvp_z, okvp_z0, okvp_z1, bi_narp, am_nar0p, am_nar1p, bi_0, bi_1, true_and, and_true, r_0_0 h, r_0_1 h, r_0_2 h, r_0_3 h, r_0_4 h, r_0_5 h, r_0_6 h, r_0_7 h, r_0_8 h, r_0_9 h, i_0_10 h, i_0_11 h, o_0 h, r_9_0 h, r_9_1 h, r_9_2 h, r_9_3 h, r_9_4 h, r_9_5 h, i_9_6 h, i_9_7 h, o_9 h, r_36_0 h, r_36_1 h, i_36_2 h, i_36_3 h, i_36_4 h, o_36 h, Al_setOf h hp hnp hi, hc, r_0_0 hs1.1, r_0_1 hs1.1, r_0_2 hs1.1, r_0_3 hs1.1, r_0_4 hs1.1, r_0_5 hs1.1, r_0_6 hs1.1, r_0_7 hs1.1, r_0_8 hs1.1, r_0_9 hs1.1, i_0_10 hs1.1, i_0_11 hs1.1, o_0 hs1.1, r_36_0 hs1.1, r_36_1 hs1.1, i_36_2 hs1.1, i_36_3 hs1.1, i_36_4 hs1.1, o_36 hs1.1, g3, l1]
  exact g
def aUse (σ : am_H) (p l u z : Int32) : Bool := ((ltB p (gi σ 9 0 6) && ltB l 10) && ltB u 5) && inB z 1 1000
def aBes (σ : am_H) (w : Int32) : Bool := decide (w = -1) || ltB w (gi σ 1 9 4)
theorem A_can (h : SH σ) (p l u z : Int32) : ax k_A_canBeUsed 0 [some (.ref 0), some (.int p), some (.int l), some (.int u), some (.int z)] [] σ Q = Q (some (.int (bi (aUse σ p l u z)))) σ := by
  simp only [s_A_canBeUsed_0, s_A_canBeUsed_1, s_A_canBeUsed_4, s_A_canBeUsed_5, s_A_canBeUsed_8, s_A_canBeUsed_11, s_A_canBeUsed_12, s_A_canBeUsed_15, s_A_canBeUsed_18, s_A_canBeUsed_19, s_A_canBeUsed_22, s_A_canBeUsed_25, s_A_canBeUsed_27, s_A_canBeUsed_30, s_A_canBeUsed_33, s_A_canBeUsed_34, s_A_canBeUsed_37, s_A_canBeUsed_38, ↓reduceIte, Nat.reduceEqDiff, Nat.reduceLT, am_top, ax_f_some, ax_k_some, ax_k_none, s8_0, s8_1, s8_2, s8_3, s8_4, c2p_n, c2p_i, c2p_r, c2p_z, okvp_i, okvp_l, okvp_r, okvp_n, okvp_z, okvp_z0, okvp_z1, bi_narp, am_nar0p, am_nar1p, bi_0, bi_1, true_and, and_true, r_0_0 h, r_0_1 h, r_0_2 h, r_0_3 h, r_0_4 h, r_0_5 h, r_0_6 h, r_0_7 h, r_0_8 h, r_0_9 h, i_0_10 h, i_0_11 h, o_0 h, r_9_0 h, r_9_1 h, r_9_2 h, r_9_3 h, r_9_4 h, r_9_5 h, i_9_6 h, i_9_7 h, o_9 h, Al_isPicture h, A_isLand, A_isUse, A_isSize, aUse]
  cases ltB p (gi σ 9 0 6) <;> cases ltB l 10 <;> cases ltB u 5 <;> cases inB z 1 1000 <;> simp [bi]
def aWhy (σ : am_H) (nl ne ns i k : Nat) (tm : Nat → RS) (v : Nat → Nat → Int32) (land use size : Int32) (ch c : Int64) : Int32 × Int32 :=
  if gi σ 0 10 11 < latF (ga σ 27) (ga σ 28) (ga σ 29) (nI i) (gi σ 0 10 11) 0 ne then (1, -1) else (fstR (txtB k tm land use size (gi σ 0 10 11) ch) 0 3).elim ((fstR (perB σ nl i) 0 16).elim ((fstR (shutB v c land (gi σ 0 10 11)) 0 ns).elim (0, -1) (fun s => (4, nI s))) (fun q => (3, nI q))) (fun k => (2, nI k))
theorem A_why_no (h : SH σ) (pic land use size word : Int32) (hno : ¬ (aUse σ pic land use size = true ∧ aBes σ word = true)) : ax k_A_why 0 [some (.ref 0), some (.int pic), some (.int land), some (.int use), some (.int size), some (.int word), none] [] σ Q = Q (some (.int (-1))) σ := by
  have n10 : ((1 : Int32) = 0) = False := eq_false (by decide)
  by_cases c1 : word = -1
  · have c2 : aBes σ word = true := by simp [aBes, c1]
    have c3 : aUse σ pic land use size = false := by
      cases e : aUse σ pic land use size
      · rfl
      · exact absurd ⟨e, c2⟩ hno
    simp only [s_A_why_0, s_A_why_2, s_A_why_3, s_A_why_6, s_A_why_7, s_A_why_10, s_A_why_12, s_A_why_15, s_A_why_18, s_A_why_19, s_A_why_22, s_A_why_23, s_A_why_25, s_A_why_27, s_A_why_30, s_A_why_31, s_A_why_32, s_A_why_33, s_A_why_34, s_A_why_36, s_A_why_39, s_A_why_42, s_A_why_43, s_A_why_44, s_A_why_45, s_A_why_48, s_A_why_49, s_A_why_50, s_A_why_53, s_A_why_54, s_A_why_57, s_A_why_58, s_A_why_61, s_A_why_64, s_A_why_65, s_A_why_66, s_A_why_67, s_A_why_68, s_A_why_69, s_A_why_70, s_A_why_72, s_A_why_74, s_A_why_77, s_A_why_78, s_A_why_81, s_A_why_82, s_A_why_83, s_A_why_84, s_A_why_85, s_A_why_88, s_A_why_89, s_A_why_92, s_A_why_93, s_A_why_94, s_A_why_95, s_A_why_96, s_A_why_97, s_A_why_100, s_A_why_101, s_A_why_104, s_A_why_105, s_A_why_108, s_A_why_109, ↓reduceIte, Nat.reduceEqDiff, Nat.reduceLT, am_top, ax_f_some, ax_k_some, ax_k_none, s8_0, s8_1, s8_2, s8_3, s8_4, c2p_n, c2p_i, c2p_r, c2p_z, okvp_i, okvp_l, okvp_r, okvp_n, okvp_z, okvp_z0, okvp_z1, bi_narp, am_nar0p, am_nar1p, bi_0, bi_1, true_and, and_true, r_0_0 h, r_0_1 h, r_0_2 h, r_0_3 h, r_0_4 h, r_0_5 h, r_0_6 h, r_0_7 h, r_0_8 h, r_0_9 h, i_0_10 h, i_0_11 h, o_0 h, r_1_0 h, r_1_1 h, r_1_2 h, r_1_3 h, i_1_4 h, o_1 h, if_pos c1, A_can h, c3, n10]
  · cases c2 : ltB word (gi σ 1 9 4)
    · simp only [s_A_why_0, s_A_why_2, s_A_why_3, s_A_why_6, s_A_why_7, s_A_why_10, s_A_why_12, s_A_why_15, s_A_why_18, s_A_why_19, s_A_why_22, s_A_why_23, s_A_why_25, s_A_why_27, s_A_why_30, s_A_why_31, s_A_why_32, s_A_why_33, s_A_why_34, s_A_why_36, s_A_why_39, s_A_why_42, s_A_why_43, s_A_why_44, s_A_why_45, s_A_why_48, s_A_why_49, s_A_why_50, s_A_why_53, s_A_why_54, s_A_why_57, s_A_why_58, s_A_why_61, s_A_why_64, s_A_why_65, s_A_why_66, s_A_why_67, s_A_why_68, s_A_why_69, s_A_why_70, s_A_why_72, s_A_why_74, s_A_why_77, s_A_why_78, s_A_why_81, s_A_why_82, s_A_why_83, s_A_why_84, s_A_why_85, s_A_why_88, s_A_why_89, s_A_why_92, s_A_why_93, s_A_why_94, s_A_why_95, s_A_why_96, s_A_why_97, s_A_why_100, s_A_why_101, s_A_why_104, s_A_why_105, s_A_why_108, s_A_why_109, ↓reduceIte, Nat.reduceEqDiff, Nat.reduceLT, am_top, ax_f_some, ax_k_some, ax_k_none, s8_0, s8_1, s8_2, s8_3, s8_4, c2p_n, c2p_i, c2p_r, c2p_z, okvp_i, okvp_l, okvp_r, okvp_n, okvp_z, okvp_z0, okvp_z1, bi_narp, am_nar0p, am_nar1p, bi_0, bi_1, true_and, and_true, r_0_0 h, r_0_1 h, r_0_2 h, r_0_3 h, r_0_4 h, r_0_5 h, r_0_6 h, r_0_7 h, r_0_8 h, r_0_9 h, i_0_10 h, i_0_11 h, o_0 h, r_1_0 h, r_1_1 h, r_1_2 h, r_1_3 h, i_1_4 h, o_1 h, if_neg c1, T_isWord h, c2]
    · have c4 : aBes σ word = true := by simp [aBes, c2]
      have c3 : aUse σ pic land use size = false := by
        cases e : aUse σ pic land use size
        · rfl
        · exact absurd ⟨e, c4⟩ hno
      simp only [s_A_why_0, s_A_why_2, s_A_why_3, s_A_why_6, s_A_why_7, s_A_why_10, s_A_why_12, s_A_why_15, s_A_why_18, s_A_why_19, s_A_why_22, s_A_why_23, s_A_why_25, s_A_why_27, s_A_why_30, s_A_why_31, s_A_why_32, s_A_why_33, s_A_why_34, s_A_why_36, s_A_why_39, s_A_why_42, s_A_why_43, s_A_why_44, s_A_why_45, s_A_why_48, s_A_why_49, s_A_why_50, s_A_why_53, s_A_why_54, s_A_why_57, s_A_why_58, s_A_why_61, s_A_why_64, s_A_why_65, s_A_why_66, s_A_why_67, s_A_why_68, s_A_why_69, s_A_why_70, s_A_why_72, s_A_why_74, s_A_why_77, s_A_why_78, s_A_why_81, s_A_why_82, s_A_why_83, s_A_why_84, s_A_why_85, s_A_why_88, s_A_why_89, s_A_why_92, s_A_why_93, s_A_why_94, s_A_why_95, s_A_why_96, s_A_why_97, s_A_why_100, s_A_why_101, s_A_why_104, s_A_why_105, s_A_why_108, s_A_why_109, ↓reduceIte, Nat.reduceEqDiff, Nat.reduceLT, am_top, ax_f_some, ax_k_some, ax_k_none, s8_0, s8_1, s8_2, s8_3, s8_4, c2p_n, c2p_i, c2p_r, c2p_z, okvp_i, okvp_l, okvp_r, okvp_n, okvp_z, okvp_z0, okvp_z1, bi_narp, am_nar0p, am_nar1p, bi_0, bi_1, true_and, and_true, r_0_0 h, r_0_1 h, r_0_2 h, r_0_3 h, r_0_4 h, r_0_5 h, r_0_6 h, r_0_7 h, r_0_8 h, r_0_9 h, i_0_10 h, i_0_11 h, o_0 h, r_1_0 h, r_1_1 h, r_1_2 h, r_1_3 h, i_1_4 h, o_1 h, if_neg c1, T_isWord h, c2, A_can h, c3, n10, Bool.true_eq_false]
theorem A_why (H : AOk σ n nt np nl ne ns A v) (hX : TxtAt σ i k tm) (hi : i < np) (land use size word : Int32) (hu : aUse σ (nI i) land use size = true) (hb : aBes σ word = true) (hch : ∀ τ, Scr σ τ → clR (rcF τ n nt (gi σ 0 10 11)) n 40 word 0 = ch) (hc : ∀ τ, Scr σ τ → (setB τ np i).1 = c) (hQ : ∀ τ, Scr σ τ → Q (some (.int (aWhy σ nl ne ns i k tm v land use size ch c).1)) τ) : ax k_A_why 0 [some (.ref 0), some (.int (nI i)), some (.int land), some (.int use), some (.int size), some (.int word), none] [] σ Q := by
  have h := H.1
  have H0 := H
  obtain ⟨-, ⟨hn, hle⟩, ⟨ht, hnt⟩, ⟨hp, hnp⟩, ⟨hl, hnl⟩, ⟨he, hne⟩, ⟨hs, hns⟩, hS⟩ := H
  have n10 : ((1 : Int32) = 0) = False := eq_false (by decide)
  have go : ax k_A_why 0 [some (.ref 0), some (.int (nI i)), some (.int land), some (.int use), some (.int size), some (.int word), none] [] σ Q = (if gi σ 0 10 11 < latF (ga σ 27) (ga σ 28) (ga σ 29) (nI i) (gi σ 0 10 11) 0 ne then Q (some (.int 1)) σ else ax k_A_textAgainst 0 [some (.ref 0), some (.int (nI i)), some (.int land), some (.int use), some (.int size), some (.int word), none, none, none, none] [] σ (ax_k k_A_why 77 [some (.ref 0), some (.int (nI i)), some (.int land), some (.int use), some (.int size), some (.int word), some (.int 1)] [] Q)) := by
    by_cases c1 : word = -1
    · simp only [s_A_why_0, s_A_why_2, s_A_why_3, s_A_why_6, s_A_why_7, s_A_why_10, s_A_why_12, s_A_why_15, s_A_why_18, s_A_why_19, s_A_why_22, s_A_why_23, s_A_why_25, s_A_why_27, s_A_why_30, s_A_why_31, s_A_why_32, s_A_why_33, s_A_why_34, s_A_why_36, s_A_why_39, s_A_why_42, s_A_why_43, s_A_why_44, s_A_why_45, s_A_why_48, s_A_why_49, s_A_why_50, s_A_why_53, s_A_why_54, s_A_why_57, s_A_why_58, s_A_why_61, s_A_why_64, s_A_why_65, s_A_why_66, s_A_why_67, s_A_why_68, s_A_why_69, s_A_why_70, s_A_why_72, s_A_why_74, s_A_why_77, s_A_why_78, s_A_why_81, s_A_why_82, s_A_why_83, s_A_why_84, s_A_why_85, s_A_why_88, s_A_why_89, s_A_why_92, s_A_why_93, s_A_why_94, s_A_why_95, s_A_why_96, s_A_why_97, s_A_why_100, s_A_why_101, s_A_why_104, s_A_why_105, s_A_why_108, s_A_why_109, ↓reduceIte, Nat.reduceEqDiff, Nat.reduceLT, am_top, ax_f_some, ax_k_some, ax_k_none, s8_0, s8_1, s8_2, s8_3, s8_4, c2p_n, c2p_i, c2p_r, c2p_z, okvp_i, okvp_l, okvp_r, okvp_n, okvp_z, okvp_z0, okvp_z1, bi_narp, am_nar0p, am_nar1p, bi_0, bi_1, true_and, and_true, r_0_0 h, r_0_1 h, r_0_2 h, r_0_3 h, r_0_4 h, r_0_5 h, r_0_6 h, r_0_7 h, r_0_8 h, r_0_9 h, i_0_10 h, i_0_11 h, o_0 h, r_1_0 h, r_1_1 h, r_1_2 h, r_1_3 h, i_1_4 h, o_1 h, r_26_0 h, r_26_1 h, r_26_2 h, i_26_3 h, o_26 h, if_pos c1, A_can h, hu, n10, Log_latest (LogEmb h he hne), Bool.true_eq_false]
    · have c2 : ltB word (gi σ 1 9 4) = true := by simpa [aBes, c1] using hb
      simp only [s_A_why_0, s_A_why_2, s_A_why_3, s_A_why_6, s_A_why_7, s_A_why_10, s_A_why_12, s_A_why_15, s_A_why_18, s_A_why_19, s_A_why_22, s_A_why_23, s_A_why_25, s_A_why_27, s_A_why_30, s_A_why_31, s_A_why_32, s_A_why_33, s_A_why_34, s_A_why_36, s_A_why_39, s_A_why_42, s_A_why_43, s_A_why_44, s_A_why_45, s_A_why_48, s_A_why_49, s_A_why_50, s_A_why_53, s_A_why_54, s_A_why_57, s_A_why_58, s_A_why_61, s_A_why_64, s_A_why_65, s_A_why_66, s_A_why_67, s_A_why_68, s_A_why_69, s_A_why_70, s_A_why_72, s_A_why_74, s_A_why_77, s_A_why_78, s_A_why_81, s_A_why_82, s_A_why_83, s_A_why_84, s_A_why_85, s_A_why_88, s_A_why_89, s_A_why_92, s_A_why_93, s_A_why_94, s_A_why_95, s_A_why_96, s_A_why_97, s_A_why_100, s_A_why_101, s_A_why_104, s_A_why_105, s_A_why_108, s_A_why_109, ↓reduceIte, Nat.reduceEqDiff, Nat.reduceLT, am_top, ax_f_some, ax_k_some, ax_k_none, s8_0, s8_1, s8_2, s8_3, s8_4, c2p_n, c2p_i, c2p_r, c2p_z, okvp_i, okvp_l, okvp_r, okvp_n, okvp_z, okvp_z0, okvp_z1, bi_narp, am_nar0p, am_nar1p, bi_0, bi_1, true_and, and_true, r_0_0 h, r_0_1 h, r_0_2 h, r_0_3 h, r_0_4 h, r_0_5 h, r_0_6 h, r_0_7 h, r_0_8 h, r_0_9 h, i_0_10 h, i_0_11 h, o_0 h, r_1_0 h, r_1_1 h, r_1_2 h, r_1_3 h, i_1_4 h, o_1 h, r_26_0 h, r_26_1 h, r_26_2 h, i_26_3 h, o_26 h, if_neg c1, T_isWord h, c2, A_can h, hu, n10, Log_latest (LogEmb h he hne), Bool.true_eq_false]
  rw [go]
  unfold aWhy at hQ
  by_cases c1 : gi σ 0 10 11 < latF (ga σ 27) (ga σ 28) (ga σ 29) (nI i) (gi σ 0 10 11) 0 ne
  · rw [if_pos c1]
    simp only [if_pos c1] at hQ
    exact hQ σ (Scr_refl h)
  · rw [if_neg c1]
    simp only [if_neg c1] at hQ
    refine A_textAg H0 hX hi land use size word (hch σ (Scr_refl h)) (fun τ hτ => ?_)
    cases c2 : fstR (txtB k tm land use size (gi σ 0 10 11) ch) 0 3 with
    | some q =>
      rw [c2] at hQ
      have hq := fstR_in _ _ _ _ c2
      have hne1 := oI_some (show q < 2 ^ 31 by omega)
      have g := hQ τ hτ
      simp only [Option.elim_some] at g
      simp only [s_A_why_0, s_A_why_2, s_A_why_3, s_A_why_6, s_A_why_7, s_A_why_10, s_A_why_12, s_A_why_15, s_A_why_18, s_A_why_19, s_A_why_22, s_A_why_23, s_A_why_25, s_A_why_27, s_A_why_30, s_A_why_31, s_A_why_32, s_A_why_33, s_A_why_34, s_A_why_36, s_A_why_39, s_A_why_42, s_A_why_43, s_A_why_44, s_A_why_45, s_A_why_48, s_A_why_49, s_A_why_50, s_A_why_53, s_A_why_54, s_A_why_57, s_A_why_58, s_A_why_61, s_A_why_64, s_A_why_65, s_A_why_66, s_A_why_67, s_A_why_68, s_A_why_69, s_A_why_70, s_A_why_72, s_A_why_74, s_A_why_77, s_A_why_78, s_A_why_81, s_A_why_82, s_A_why_83, s_A_why_84, s_A_why_85, s_A_why_88, s_A_why_89, s_A_why_92, s_A_why_93, s_A_why_94, s_A_why_95, s_A_why_96, s_A_why_97, s_A_why_100, s_A_why_101, s_A_why_104, s_A_why_105, s_A_why_108, s_A_why_109, ↓reduceIte, Nat.reduceEqDiff, Nat.reduceLT, am_top, ax_f_some, ax_k_some, ax_k_none, s8_0, s8_1, s8_2, s8_3, s8_4, c2p_n, c2p_i, c2p_r, c2p_z, okvp_i, okvp_l, okvp_r, okvp_n, okvp_z, okvp_z0, okvp_z1, bi_narp, am_nar0p, am_nar1p, bi_0, bi_1, true_and, and_true, if_neg hne1]
      exact g
    | none =>
      rw [c2] at hQ
      simp only [Option.elim_none] at hQ
      have Hτ := AOk_scr hτ H0
      have pe : perB τ nl i = perB σ nl i := by
        funext q
        unfold perB
        rw [Scr_ga hτ (by decide) (by decide) (by decide), Scr_ga hτ (by decide) (by decide) (by decide), Scr_ga hτ (by decide) (by decide) (by decide), Scr_ga hτ (by decide) (by decide) (by decide), Scr_gi hτ (by decide) (by decide) (by decide)]
      have l1 := fun (Q : Option Value → am_H → Prop) => A_person (Q := Q) hτ.1 Hτ.2.2.2.1.1 hnp Hτ.2.2.2.2.1.1 hnl hi
      rw [pe] at l1
      simp only [s_A_why_0, s_A_why_2, s_A_why_3, s_A_why_6, s_A_why_7, s_A_why_10, s_A_why_12, s_A_why_15, s_A_why_18, s_A_why_19, s_A_why_22, s_A_why_23, s_A_why_25, s_A_why_27, s_A_why_30, s_A_why_31, s_A_why_32, s_A_why_33, s_A_why_34, s_A_why_36, s_A_why_39, s_A_why_42, s_A_why_43, s_A_why_44, s_A_why_45, s_A_why_48, s_A_why_49, s_A_why_50, s_A_why_53, s_A_why_54, s_A_why_57, s_A_why_58, s_A_why_61, s_A_why_64, s_A_why_65, s_A_why_66, s_A_why_67, s_A_why_68, s_A_why_69, s_A_why_70, s_A_why_72, s_A_why_74, s_A_why_77, s_A_why_78, s_A_why_81, s_A_why_82, s_A_why_83, s_A_why_84, s_A_why_85, s_A_why_88, s_A_why_89, s_A_why_92, s_A_why_93, s_A_why_94, s_A_why_95, s_A_why_96, s_A_why_97, s_A_why_100, s_A_why_101, s_A_why_104, s_A_why_105, s_A_why_108, s_A_why_109, ↓reduceIte, Nat.reduceEqDiff, Nat.reduceLT, am_top, ax_f_some, ax_k_some, ax_k_none, s8_0, s8_1, s8_2, s8_3, s8_4, c2p_n, c2p_i, c2p_r, c2p_z, okvp_i, okvp_l, okvp_r, okvp_n, okvp_z, okvp_z0, okvp_z1, bi_narp, am_nar0p, am_nar1p, bi_0, bi_1, true_and, and_true, oI_none, r_0_0 hτ.1, r_0_1 hτ.1, r_0_2 hτ.1, r_0_3 hτ.1, r_0_4 hτ.1, r_0_5 hτ.1, r_0_6 hτ.1, r_0_7 hτ.1, r_0_8 hτ.1, r_0_9 hτ.1, i_0_10 hτ.1, i_0_11 hτ.1, o_0 hτ.1, l1]
      cases c3 : fstR (perB σ nl i) 0 16 with
      | some q =>
        rw [c3] at hQ
        have hq := fstR_in _ _ _ _ c3
        have hne1 := oI_some (show q < 2 ^ 31 by omega)
        have g := hQ τ hτ
        simp only [Option.elim_some] at g
        simp only [if_neg hne1]
        exact g
      | none =>
        rw [c3] at hQ
        simp only [Option.elim_none] at hQ
        simp only [oI_none, ↓reduceIte]
        refine A_saleAg Hτ hi land (hc τ hτ) (fun ρ hρ => ?_)
        have g := hQ ρ (Scr_trans hτ hρ)
        rw [Scr_gi hτ (by decide) (by decide) (by decide)]
        cases c4 : fstR (shutB v c land (gi σ 0 10 11)) 0 ns with
        | some q =>
          rw [c4] at g
          have hq := fstR_in _ _ _ _ c4
          have hne1 := oI_some (show q < 2 ^ 31 by omega)
          simp only [Option.elim_some] at g
          simp only [s_A_why_0, s_A_why_2, s_A_why_3, s_A_why_6, s_A_why_7, s_A_why_10, s_A_why_12, s_A_why_15, s_A_why_18, s_A_why_19, s_A_why_22, s_A_why_23, s_A_why_25, s_A_why_27, s_A_why_30, s_A_why_31, s_A_why_32, s_A_why_33, s_A_why_34, s_A_why_36, s_A_why_39, s_A_why_42, s_A_why_43, s_A_why_44, s_A_why_45, s_A_why_48, s_A_why_49, s_A_why_50, s_A_why_53, s_A_why_54, s_A_why_57, s_A_why_58, s_A_why_61, s_A_why_64, s_A_why_65, s_A_why_66, s_A_why_67, s_A_why_68, s_A_why_69, s_A_why_70, s_A_why_72, s_A_why_74, s_A_why_77, s_A_why_78, s_A_why_81, s_A_why_82, s_A_why_83, s_A_why_84, s_A_why_85, s_A_why_88, s_A_why_89, s_A_why_92, s_A_why_93, s_A_why_94, s_A_why_95, s_A_why_96, s_A_why_97, s_A_why_100, s_A_why_101, s_A_why_104, s_A_why_105, s_A_why_108, s_A_why_109, ↓reduceIte, Nat.reduceEqDiff, Nat.reduceLT, am_top, ax_f_some, ax_k_some, ax_k_none, s8_0, s8_1, s8_2, s8_3, s8_4, c2p_n, c2p_i, c2p_r, c2p_z, okvp_i, okvp_l, okvp_r, okvp_n, okvp_z, okvp_z0, okvp_z1, bi_narp, am_nar0p, am_nar1p, bi_0, bi_1, true_and, and_true, if_neg hne1]
          exact g
        | none =>
          rw [c4] at g
          simp only [Option.elim_none] at g
          simp only [s_A_why_0, s_A_why_2, s_A_why_3, s_A_why_6, s_A_why_7, s_A_why_10, s_A_why_12, s_A_why_15, s_A_why_18, s_A_why_19, s_A_why_22, s_A_why_23, s_A_why_25, s_A_why_27, s_A_why_30, s_A_why_31, s_A_why_32, s_A_why_33, s_A_why_34, s_A_why_36, s_A_why_39, s_A_why_42, s_A_why_43, s_A_why_44, s_A_why_45, s_A_why_48, s_A_why_49, s_A_why_50, s_A_why_53, s_A_why_54, s_A_why_57, s_A_why_58, s_A_why_61, s_A_why_64, s_A_why_65, s_A_why_66, s_A_why_67, s_A_why_68, s_A_why_69, s_A_why_70, s_A_why_72, s_A_why_74, s_A_why_77, s_A_why_78, s_A_why_81, s_A_why_82, s_A_why_83, s_A_why_84, s_A_why_85, s_A_why_88, s_A_why_89, s_A_why_92, s_A_why_93, s_A_why_94, s_A_why_95, s_A_why_96, s_A_why_97, s_A_why_100, s_A_why_101, s_A_why_104, s_A_why_105, s_A_why_108, s_A_why_109, ↓reduceIte, Nat.reduceEqDiff, Nat.reduceLT, am_top, ax_f_some, ax_k_some, ax_k_none, s8_0, s8_1, s8_2, s8_3, s8_4, c2p_n, c2p_i, c2p_r, c2p_z, okvp_i, okvp_l, okvp_r, okvp_n, okvp_z, okvp_z0, okvp_z1, bi_narp, am_nar0p, am_nar1p, bi_0, bi_1, true_and, and_true, oI_none]
          exact g
theorem A_by_no (h : SH σ) (pic land use size word : Int32) (hno : ¬ (aUse σ pic land use size = true ∧ aBes σ word = true)) : ax k_A_by 0 [some (.ref 0), some (.int pic), some (.int land), some (.int use), some (.int size), some (.int word)] [] σ Q = Q (some (.int (-1))) σ := by
  have n2 : ((-1 : Int32) = 2) = False := eq_false (by decide)
  have n3 : ((-1 : Int32) = 3) = False := eq_false (by decide)
  have n4 : ((-1 : Int32) = 4) = False := eq_false (by decide)
  simp only [s_A_by_0, s_A_by_1, s_A_by_2, s_A_by_3, s_A_by_4, s_A_by_6, s_A_by_8, s_A_by_11, s_A_by_36, s_A_by_37, s_A_by_38, s_A_by_39, s_A_by_40, s_A_by_42, s_A_by_44, s_A_by_47, s_A_by_48, s_A_by_49, s_A_by_50, s_A_by_53, s_A_by_54, s_A_by_55, s_A_by_56, s_A_by_57, s_A_by_60, s_A_by_61, s_A_by_62, ↓reduceIte, Nat.reduceEqDiff, Nat.reduceLT, am_top, ax_f_some, ax_k_some, ax_k_none, s8_0, s8_1, s8_2, s8_3, s8_4, c2p_n, c2p_i, c2p_r, c2p_z, okvp_i, okvp_l, okvp_r, okvp_n, okvp_z, okvp_z0, okvp_z1, bi_narp, am_nar0p, am_nar1p, bi_0, bi_1, true_and, and_true, r_0_0 h, r_0_1 h, r_0_2 h, r_0_3 h, r_0_4 h, r_0_5 h, r_0_6 h, r_0_7 h, r_0_8 h, r_0_9 h, i_0_10 h, i_0_11 h, o_0 h, A_why_no h pic land use size word hno, n2, n3, n4]
theorem A_by (H : AOk σ n nt np nl ne ns A v) (hX : TxtAt σ i k tm) (hi : i < np) (land use size word : Int32) (hu : aUse σ (nI i) land use size = true) (hb : aBes σ word = true) (hch : ∀ τ, Scr σ τ → clR (rcF τ n nt (gi σ 0 10 11)) n 40 word 0 = ch) (hc : ∀ τ, Scr σ τ → (setB τ np i).1 = c) (hQ : ∀ τ, Scr σ τ → Q (some (.int (aWhy σ nl ne ns i k tm v land use size ch c).2)) τ) : ax k_A_by 0 [some (.ref 0), some (.int (nI i)), some (.int land), some (.int use), some (.int size), some (.int word)] [] σ Q := by
  have h := H.1
  have go : ax k_A_by 0 [some (.ref 0), some (.int (nI i)), some (.int land), some (.int use), some (.int size), some (.int word)] [] σ Q = ax k_A_why 0 [some (.ref 0), some (.int (nI i)), some (.int land), some (.int use), some (.int size), some (.int word), none] [] σ (ax_k k_A_by 11 [some (.ref 0), some (.int (nI i)), some (.int land), some (.int use), some (.int size), some (.int word)] [] Q) := by
    simp only [s_A_by_0, s_A_by_1, s_A_by_2, s_A_by_3, s_A_by_4, s_A_by_6, s_A_by_8, s_A_by_11, s_A_by_36, s_A_by_37, s_A_by_38, s_A_by_39, s_A_by_40, s_A_by_42, s_A_by_44, s_A_by_47, s_A_by_48, s_A_by_49, s_A_by_50, s_A_by_53, s_A_by_54, s_A_by_55, s_A_by_56, s_A_by_57, s_A_by_60, s_A_by_61, s_A_by_62, ↓reduceIte, Nat.reduceEqDiff, Nat.reduceLT, am_top, ax_f_some, ax_k_some, ax_k_none, s8_0, s8_1, s8_2, s8_3, s8_4, c2p_n, c2p_i, c2p_r, c2p_z, okvp_i, okvp_l, okvp_r, okvp_n, okvp_z, okvp_z0, okvp_z1, bi_narp, am_nar0p, am_nar1p, bi_0, bi_1, true_and, and_true, r_0_0 h, r_0_1 h, r_0_2 h, r_0_3 h, r_0_4 h, r_0_5 h, r_0_6 h, r_0_7 h, r_0_8 h, r_0_9 h, i_0_10 h, i_0_11 h, o_0 h]
  rw [go]
  refine A_why H hX hi land use size word hu hb hch hc (fun τ hτ => ?_)
  have Hτ := AOk_scr hτ H
  have gc : gi τ 0 10 11 = gi σ 0 10 11 := Scr_gi hτ (by decide) (by decide) (by decide)
  unfold aWhy at hQ ⊢
  by_cases c1 : gi σ 0 10 11 < latF (ga σ 27) (ga σ 28) (ga σ 29) (nI i) (gi σ 0 10 11) 0 ne
  · simp only [if_pos c1] at hQ ⊢
    have n2 : ((1 : Int32) = 2) = False := eq_false (by decide)
    have n3 : ((1 : Int32) = 3) = False := eq_false (by decide)
    have n4 : ((1 : Int32) = 4) = False := eq_false (by decide)
    simp only [s_A_by_0, s_A_by_1, s_A_by_2, s_A_by_3, s_A_by_4, s_A_by_6, s_A_by_8, s_A_by_11, s_A_by_36, s_A_by_37, s_A_by_38, s_A_by_39, s_A_by_40, s_A_by_42, s_A_by_44, s_A_by_47, s_A_by_48, s_A_by_49, s_A_by_50, s_A_by_53, s_A_by_54, s_A_by_55, s_A_by_56, s_A_by_57, s_A_by_60, s_A_by_61, s_A_by_62, ↓reduceIte, Nat.reduceEqDiff, Nat.reduceLT, am_top, ax_f_some, ax_k_some, ax_k_none, s8_0, s8_1, s8_2, s8_3, s8_4, c2p_n, c2p_i, c2p_r, c2p_z, okvp_i, okvp_l, okvp_r, okvp_n, okvp_z, okvp_z0, okvp_z1, bi_narp, am_nar0p, am_nar1p, bi_0, bi_1, true_and, and_true, n2, n3, n4]
    exact hQ τ hτ
  · simp only [if_neg c1] at hQ ⊢
    cases c2 : fstR (txtB k tm land use size (gi σ 0 10 11) ch) 0 3 with
    | some q =>
      rw [c2] at hQ
      simp only [Option.elim_some] at hQ ⊢
      simp only [s_A_by_0, s_A_by_1, s_A_by_2, s_A_by_3, s_A_by_4, s_A_by_6, s_A_by_8, s_A_by_11, s_A_by_36, s_A_by_37, s_A_by_38, s_A_by_39, s_A_by_40, s_A_by_42, s_A_by_44, s_A_by_47, s_A_by_48, s_A_by_49, s_A_by_50, s_A_by_53, s_A_by_54, s_A_by_55, s_A_by_56, s_A_by_57, s_A_by_60, s_A_by_61, s_A_by_62, ↓reduceIte, Nat.reduceEqDiff, Nat.reduceLT, am_top, ax_f_some, ax_k_some, ax_k_none, s8_0, s8_1, s8_2, s8_3, s8_4, c2p_n, c2p_i, c2p_r, c2p_z, okvp_i, okvp_l, okvp_r, okvp_n, okvp_z, okvp_z0, okvp_z1, bi_narp, am_nar0p, am_nar1p, bi_0, bi_1, true_and, and_true, r_0_0 hτ.1, r_0_1 hτ.1, r_0_2 hτ.1, r_0_3 hτ.1, r_0_4 hτ.1, r_0_5 hτ.1, r_0_6 hτ.1, r_0_7 hτ.1, r_0_8 hτ.1, r_0_9 hτ.1, i_0_10 hτ.1, i_0_11 hτ.1, o_0 hτ.1]
      refine A_textAg Hτ (Txt_scr hτ hX) hi land use size word (ch := ch) (by rw [gc]; exact hch τ hτ) (fun ρ hρ => ?_)
      rw [gc, c2]
      have g := hQ ρ (Scr_trans hτ hρ)
      simp only [s_A_by_0, s_A_by_1, s_A_by_2, s_A_by_3, s_A_by_4, s_A_by_6, s_A_by_8, s_A_by_11, s_A_by_36, s_A_by_37, s_A_by_38, s_A_by_39, s_A_by_40, s_A_by_42, s_A_by_44, s_A_by_47, s_A_by_48, s_A_by_49, s_A_by_50, s_A_by_53, s_A_by_54, s_A_by_55, s_A_by_56, s_A_by_57, s_A_by_60, s_A_by_61, s_A_by_62, ↓reduceIte, Nat.reduceEqDiff, Nat.reduceLT, am_top, ax_f_some, ax_k_some, ax_k_none, s8_0, s8_1, s8_2, s8_3, s8_4, c2p_n, c2p_i, c2p_r, c2p_z, okvp_i, okvp_l, okvp_r, okvp_n, okvp_z, okvp_z0, okvp_z1, bi_narp, am_nar0p, am_nar1p, bi_0, bi_1, true_and, and_true]
      exact g
    | none =>
      rw [c2] at hQ
      simp only [Option.elim_none] at hQ ⊢
      have pe : perB τ nl i = perB σ nl i := by
        funext q
        unfold perB
        rw [Scr_ga hτ (by decide) (by decide) (by decide), Scr_ga hτ (by decide) (by decide) (by decide), Scr_ga hτ (by decide) (by decide) (by decide), Scr_ga hτ (by decide) (by decide) (by decide), Scr_gi hτ (by decide) (by decide) (by decide)]
      have l1 := fun (Q : Option Value → am_H → Prop) => A_person (Q := Q) hτ.1 Hτ.2.2.2.1.1 Hτ.2.2.2.1.2 Hτ.2.2.2.2.1.1 Hτ.2.2.2.2.1.2 hi
      rw [pe] at l1
      cases c3 : fstR (perB σ nl i) 0 16 with
      | some q =>
        rw [c3] at hQ l1
        simp only [Option.elim_some] at hQ ⊢
        have n2 : ((3 : Int32) = 2) = False := eq_false (by decide)
        simp only [s_A_by_0, s_A_by_1, s_A_by_2, s_A_by_3, s_A_by_4, s_A_by_6, s_A_by_8, s_A_by_11, s_A_by_36, s_A_by_37, s_A_by_38, s_A_by_39, s_A_by_40, s_A_by_42, s_A_by_44, s_A_by_47, s_A_by_48, s_A_by_49, s_A_by_50, s_A_by_53, s_A_by_54, s_A_by_55, s_A_by_56, s_A_by_57, s_A_by_60, s_A_by_61, s_A_by_62, ↓reduceIte, Nat.reduceEqDiff, Nat.reduceLT, am_top, ax_f_some, ax_k_some, ax_k_none, s8_0, s8_1, s8_2, s8_3, s8_4, c2p_n, c2p_i, c2p_r, c2p_z, okvp_i, okvp_l, okvp_r, okvp_n, okvp_z, okvp_z0, okvp_z1, bi_narp, am_nar0p, am_nar1p, bi_0, bi_1, true_and, and_true, r_0_0 hτ.1, r_0_1 hτ.1, r_0_2 hτ.1, r_0_3 hτ.1, r_0_4 hτ.1, r_0_5 hτ.1, r_0_6 hτ.1, r_0_7 hτ.1, r_0_8 hτ.1, r_0_9 hτ.1, i_0_10 hτ.1, i_0_11 hτ.1, o_0 hτ.1, n2, l1]
        exact hQ τ hτ
      | none =>
        rw [c3] at hQ
        simp only [Option.elim_none] at hQ ⊢
        cases c4 : fstR (shutB v c land (gi σ 0 10 11)) 0 ns with
        | some q =>
          rw [c4] at hQ
          simp only [Option.elim_some] at hQ ⊢
          have n2 : ((4 : Int32) = 2) = False := eq_false (by decide)
          have n3 : ((4 : Int32) = 3) = False := eq_false (by decide)
          simp only [s_A_by_0, s_A_by_1, s_A_by_2, s_A_by_3, s_A_by_4, s_A_by_6, s_A_by_8, s_A_by_11, s_A_by_36, s_A_by_37, s_A_by_38, s_A_by_39, s_A_by_40, s_A_by_42, s_A_by_44, s_A_by_47, s_A_by_48, s_A_by_49, s_A_by_50, s_A_by_53, s_A_by_54, s_A_by_55, s_A_by_56, s_A_by_57, s_A_by_60, s_A_by_61, s_A_by_62, ↓reduceIte, Nat.reduceEqDiff, Nat.reduceLT, am_top, ax_f_some, ax_k_some, ax_k_none, s8_0, s8_1, s8_2, s8_3, s8_4, c2p_n, c2p_i, c2p_r, c2p_z, okvp_i, okvp_l, okvp_r, okvp_n, okvp_z, okvp_z0, okvp_z1, bi_narp, am_nar0p, am_nar1p, bi_0, bi_1, true_and, and_true, r_0_0 hτ.1, r_0_1 hτ.1, r_0_2 hτ.1, r_0_3 hτ.1, r_0_4 hτ.1, r_0_5 hτ.1, r_0_6 hτ.1, r_0_7 hτ.1, r_0_8 hτ.1, r_0_9 hτ.1, i_0_10 hτ.1, i_0_11 hτ.1, o_0 hτ.1, n2, n3]
          refine A_saleAg Hτ hi land (hc τ hτ) (fun ρ hρ => ?_)
          rw [gc, c4]
          have g := hQ ρ (Scr_trans hτ hρ)
          simp only [s_A_by_0, s_A_by_1, s_A_by_2, s_A_by_3, s_A_by_4, s_A_by_6, s_A_by_8, s_A_by_11, s_A_by_36, s_A_by_37, s_A_by_38, s_A_by_39, s_A_by_40, s_A_by_42, s_A_by_44, s_A_by_47, s_A_by_48, s_A_by_49, s_A_by_50, s_A_by_53, s_A_by_54, s_A_by_55, s_A_by_56, s_A_by_57, s_A_by_60, s_A_by_61, s_A_by_62, ↓reduceIte, Nat.reduceEqDiff, Nat.reduceLT, am_top, ax_f_some, ax_k_some, ax_k_none, s8_0, s8_1, s8_2, s8_3, s8_4, c2p_n, c2p_i, c2p_r, c2p_z, okvp_i, okvp_l, okvp_r, okvp_n, okvp_z, okvp_z0, okvp_z1, bi_narp, am_nar0p, am_nar1p, bi_0, bi_1, true_and, and_true]
          exact g
        | none =>
          rw [c4] at hQ
          simp only [Option.elim_none] at hQ ⊢
          have n2 : ((0 : Int32) = 2) = False := eq_false (by decide)
          have n3 : ((0 : Int32) = 3) = False := eq_false (by decide)
          have n4 : ((0 : Int32) = 4) = False := eq_false (by decide)
          simp only [s_A_by_0, s_A_by_1, s_A_by_2, s_A_by_3, s_A_by_4, s_A_by_6, s_A_by_8, s_A_by_11, s_A_by_36, s_A_by_37, s_A_by_38, s_A_by_39, s_A_by_40, s_A_by_42, s_A_by_44, s_A_by_47, s_A_by_48, s_A_by_49, s_A_by_50, s_A_by_53, s_A_by_54, s_A_by_55, s_A_by_56, s_A_by_57, s_A_by_60, s_A_by_61, s_A_by_62, ↓reduceIte, Nat.reduceEqDiff, Nat.reduceLT, am_top, ax_f_some, ax_k_some, ax_k_none, s8_0, s8_1, s8_2, s8_3, s8_4, c2p_n, c2p_i, c2p_r, c2p_z, okvp_i, okvp_l, okvp_r, okvp_n, okvp_z, okvp_z0, okvp_z1, bi_narp, am_nar0p, am_nar1p, bi_0, bi_1, true_and, and_true, n2, n3, n4]
          exact hQ τ hτ
end B2
