/-! THE CLASS, 11: tokens and clauses -/
def nxC (T : Nat → Int32) (t : Nat) (s : RS) : RS :=
  if T (skipR T (t + 1 - s.be) s.be) = -1 then ((s.s_ki 4).s_st (skipR T (t + 1 - s.be) s.be)).s_be (skipR T (t + 1 - s.be) s.be)
  else if ltr (T (skipR T (t + 1 - s.be) s.be)) = true then ((s.s_ki 1).s_st (skipR T (t + 1 - s.be) s.be)).s_be (lenR T (t + 1 - skipR T (t + 1 - s.be) s.be) (skipR T (t + 1 - s.be) s.be))
  else if dgt (T (skipR T (t + 1 - s.be) s.be)) = true then (((s.s_ki 2).s_st (skipR T (t + 1 - s.be) s.be)).s_nu (digC T (t + 1 - skipR T (t + 1 - s.be) s.be) 0 (skipR T (t + 1 - s.be) s.be)).1).s_be (digC T (t + 1 - skipR T (t + 1 - s.be) s.be) 0 (skipR T (t + 1 - s.be) s.be)).2
  else ((s.s_ki (if T (skipR T (t + 1 - s.be) s.be) = 59 then 3 else 5)).s_st (skipR T (t + 1 - s.be) s.be)).s_be (skipR T (t + 1 - s.be) s.be + 1)
theorem askip_le {f : Nat → Int32} {t : Nat} : ∀ n i, i ≤ t → skipR (aSee t f) n i ≤ t ∧ i ≤ skipR (aSee t f) n i := by
  intro n
  induction n with
  | zero => intro i hi; exact ⟨hi, Nat.le_refl _⟩
  | succ n ih =>
    intro i hi
    simp only [skipR]
    split
    · rename_i c
      have : i < t := by
        rcases Nat.lt_or_ge i t with h | h
        · exact h
        · unfold aSee at c
          rw [if_neg (by omega)] at c
          exact absurd c (by decide)
      have := ih (i + 1) (by omega)
      omega
    · exact ⟨hi, Nat.le_refl _⟩
theorem asee_lt {f : Nat → Int32} {t j : Nat} (h : ¬ aSee t f j = -1) : j < t := by
  rcases Nat.lt_or_ge j t with h1 | h1
  · exact h1
  · unfold aSee at h
    rw [if_neg (by omega)] at h
    exact absurd rfl h
theorem lenR_le {f : Nat → Int32} {t : Nat} : ∀ n j, j ≤ t → lenR (aSee t f) n j ≤ t := by
  intro n
  induction n with
  | zero => intro j h; exact h
  | succ n ih =>
    intro j h
    simp only [lenR]
    split
    · rename_i c
      refine ih _ (asee_lt (f := f) fun e => ?_)
      rw [e, ltr_m1] at c
      cases c
    · exact h
theorem digC_le {f : Nat → Int32} {t : Nat} : ∀ k n j, j ≤ t → (digC (aSee t f) k n j).2 ≤ t := by
  intro k
  induction k with
  | zero => intro n j h; exact h
  | succ k ih =>
    intro n j h
    simp only [digC]
    split
    · rename_i c
      refine ih _ _ (asee_lt (f := f) fun e => ?_)
      rw [e, dgt_m1] at c
      cases c
    · exact h
theorem nxC_le {f : Nat → Int32} {t : Nat} (s : RS) (hs : s.be ≤ t) : (nxC (aSee t f) t s).be ≤ t ∧ (nxC (aSee t f) t s).st ≤ t := by
  have hk := askip_le (f := f) (t + 1 - s.be) s.be hs
  unfold nxC
  split
  · exact ⟨hk.1, hk.1⟩
  · rename_i c0
    split
    · exact ⟨lenR_le _ _ hk.1, hk.1⟩
    · split
      · exact ⟨digC_le _ _ _ hk.1, hk.1⟩
      · exact ⟨asee_lt c0, hk.1⟩
section RD3
variable {σ : am_H} {Q : Option Value → am_H → Prop} {T t : Nat} {w : Int32} {f : Nat → Int32}
theorem R_skip (h : TapeAt σ t f) (h1 : ¬ T = 31) (h2 : ¬ T = 32) (z : Option Value) (A : Prop) : ∀ n i s, i + n = t + 1 → RS.be s = i → ax k_Reader_step 38 [some (.ref 30), z] [] (rSt σ T w (s.s_be (skipR (aSee t f) n i))) Q = A → ax k_Reader_step 0 [some (.ref 30), z] [] (rSt σ T w s) Q = A := by
  intro n
  induction n with
  | zero =>
    intro i s hi hs hA
    have hX := tape_st (w := w) (s := s) h h1 h2
    have ht := h.2.2.2
    have e0 : aSee t f i = -1 := by unfold aSee; rw [if_neg (by omega)]
    have n32 : ((-1 : Int32) = 32) = False := eq_false (by decide)
    have ob : am_is (rSt σ T w s) 31 7 = True := eq_true (is_of_fld hX.1)
    rw [s_Reader_step_0]
    by_cases c : i < 120
    · have hc : nI i < nI 120 := nI_lt c (by omega)
      simp only [s_Reader_step_1, s_Reader_step_4, s_Reader_step_6, s_Reader_step_9, s_Reader_step_10, s_Reader_step_13, s_Reader_step_14, s_Reader_step_17, s_Reader_step_20, s_Reader_step_22, s_Reader_step_25, s_Reader_step_26, s_Reader_step_27, s_Reader_step_30, s_Reader_step_31, s_Reader_step_32, s_Reader_step_35, s_Reader_step_39, s_Reader_step_40, s_Reader_step_43, s_Reader_step_46, s_Reader_step_47, s_Reader_step_50, s_Reader_step_51, s_Reader_step_54, s_Reader_step_57, s_Reader_step_58, s_Reader_step_59, s_Reader_step_60, s_Reader_step_63, s_Reader_step_64, s_Reader_step_65, s_Reader_step_68, s_Reader_step_71, s_Reader_step_72, s_Reader_step_75, s_Reader_step_78, s_Reader_step_79, s_Reader_step_80, s_Reader_step_83, s_Reader_step_84, s_Reader_step_87, s_Reader_step_90, s_Reader_step_91, s_Reader_step_94, s_Reader_step_97, s_Reader_step_98, s_Reader_step_99, s_Reader_step_102, s_Reader_step_103, s_Reader_step_106, s_Reader_step_109, s_Reader_step_110, s_Reader_step_111, s_Reader_step_113, s_Reader_step_116, s_Reader_step_117, s_Reader_step_120, s_Reader_step_121, s_Reader_step_124, s_Reader_step_125, s_Reader_step_126, s_Reader_step_129, s_Reader_step_130, s_Reader_step_131, s_Reader_step_134, ↓reduceIte, Nat.reduceEqDiff, Nat.reduceLT, am_top, ax_f_some, ax_k_some, ax_k_none, s8_0, s8_1, s8_2, s8_3, s8_4, c2p_n, c2p_i, c2p_r, c2p_z, okvp_i, okvp_l, okvp_r, okvp_n, okvp_z, okvp_z0, okvp_z1, bi_narp, am_nar0p, am_nar1p, bi_0, bi_1, true_and, and_true, rf_0, rf_9, r_is, ob, hs, e120, hc, R_byteAt hX (show i < 1000 by omega), e0, n32]
      subst hs
      exact hA
    · have hc : ¬ nI i < nI 120 := nI_nlt (by omega) (by omega)
      simp only [s_Reader_step_1, s_Reader_step_4, s_Reader_step_6, s_Reader_step_9, s_Reader_step_10, s_Reader_step_13, s_Reader_step_14, s_Reader_step_17, s_Reader_step_20, s_Reader_step_22, s_Reader_step_25, s_Reader_step_26, s_Reader_step_27, s_Reader_step_30, s_Reader_step_31, s_Reader_step_32, s_Reader_step_35, s_Reader_step_39, s_Reader_step_40, s_Reader_step_43, s_Reader_step_46, s_Reader_step_47, s_Reader_step_50, s_Reader_step_51, s_Reader_step_54, s_Reader_step_57, s_Reader_step_58, s_Reader_step_59, s_Reader_step_60, s_Reader_step_63, s_Reader_step_64, s_Reader_step_65, s_Reader_step_68, s_Reader_step_71, s_Reader_step_72, s_Reader_step_75, s_Reader_step_78, s_Reader_step_79, s_Reader_step_80, s_Reader_step_83, s_Reader_step_84, s_Reader_step_87, s_Reader_step_90, s_Reader_step_91, s_Reader_step_94, s_Reader_step_97, s_Reader_step_98, s_Reader_step_99, s_Reader_step_102, s_Reader_step_103, s_Reader_step_106, s_Reader_step_109, s_Reader_step_110, s_Reader_step_111, s_Reader_step_113, s_Reader_step_116, s_Reader_step_117, s_Reader_step_120, s_Reader_step_121, s_Reader_step_124, s_Reader_step_125, s_Reader_step_126, s_Reader_step_129, s_Reader_step_130, s_Reader_step_131, s_Reader_step_134, ↓reduceIte, Nat.reduceEqDiff, Nat.reduceLT, am_top, ax_f_some, ax_k_some, ax_k_none, s8_0, s8_1, s8_2, s8_3, s8_4, c2p_n, c2p_i, c2p_r, c2p_z, okvp_i, okvp_l, okvp_r, okvp_n, okvp_z, okvp_z0, okvp_z1, bi_narp, am_nar0p, am_nar1p, bi_0, bi_1, true_and, and_true, rf_0, rf_9, r_is, ob, hs, e120, hc]
      subst hs
      exact hA
  | succ n ih =>
    intro i s hi hs hA
    have hX := tape_st (w := w) (s := s) h h1 h2
    have ht := h.2.2.2
    have ob : am_is (rSt σ T w s) 31 7 = True := eq_true (is_of_fld hX.1)
    have n32 : ((-1 : Int32) = 32) = False := eq_false (by decide)
    simp only [skipR] at hA
    rw [s_Reader_step_0]
    by_cases c : i < 120
    · have hc : nI i < nI 120 := nI_lt c (by omega)
      simp only [s_Reader_step_1, s_Reader_step_4, s_Reader_step_6, s_Reader_step_9, s_Reader_step_10, s_Reader_step_13, s_Reader_step_14, s_Reader_step_17, s_Reader_step_20, s_Reader_step_22, s_Reader_step_25, s_Reader_step_26, s_Reader_step_27, s_Reader_step_30, s_Reader_step_31, s_Reader_step_32, s_Reader_step_35, s_Reader_step_39, s_Reader_step_40, s_Reader_step_43, s_Reader_step_46, s_Reader_step_47, s_Reader_step_50, s_Reader_step_51, s_Reader_step_54, s_Reader_step_57, s_Reader_step_58, s_Reader_step_59, s_Reader_step_60, s_Reader_step_63, s_Reader_step_64, s_Reader_step_65, s_Reader_step_68, s_Reader_step_71, s_Reader_step_72, s_Reader_step_75, s_Reader_step_78, s_Reader_step_79, s_Reader_step_80, s_Reader_step_83, s_Reader_step_84, s_Reader_step_87, s_Reader_step_90, s_Reader_step_91, s_Reader_step_94, s_Reader_step_97, s_Reader_step_98, s_Reader_step_99, s_Reader_step_102, s_Reader_step_103, s_Reader_step_106, s_Reader_step_109, s_Reader_step_110, s_Reader_step_111, s_Reader_step_113, s_Reader_step_116, s_Reader_step_117, s_Reader_step_120, s_Reader_step_121, s_Reader_step_124, s_Reader_step_125, s_Reader_step_126, s_Reader_step_129, s_Reader_step_130, s_Reader_step_131, s_Reader_step_134, ↓reduceIte, Nat.reduceEqDiff, Nat.reduceLT, am_top, ax_f_some, ax_k_some, ax_k_none, s8_0, s8_1, s8_2, s8_3, s8_4, c2p_n, c2p_i, c2p_r, c2p_z, okvp_i, okvp_l, okvp_r, okvp_n, okvp_z, okvp_z0, okvp_z1, bi_narp, am_nar0p, am_nar1p, bi_0, bi_1, true_and, and_true, rf_0, rf_9, r_is, ob, hs, e120, hc, R_byteAt hX (show i < 1000 by omega), nI_1, rp_9]
      by_cases c1 : aSee t f i = 32
      · rw [if_pos c1] at hA ⊢
        exact ih (i + 1) (s.s_be (i + 1)) (by omega) rfl hA
      · rw [if_neg c1] at hA ⊢
        subst hs
        exact hA
    · have hc : ¬ nI i < nI 120 := nI_nlt (by omega) (by omega)
      have e0 : aSee t f i = -1 := by unfold aSee; rw [if_neg (by omega)]
      rw [e0, if_neg (by decide)] at hA
      simp only [s_Reader_step_1, s_Reader_step_4, s_Reader_step_6, s_Reader_step_9, s_Reader_step_10, s_Reader_step_13, s_Reader_step_14, s_Reader_step_17, s_Reader_step_20, s_Reader_step_22, s_Reader_step_25, s_Reader_step_26, s_Reader_step_27, s_Reader_step_30, s_Reader_step_31, s_Reader_step_32, s_Reader_step_35, s_Reader_step_39, s_Reader_step_40, s_Reader_step_43, s_Reader_step_46, s_Reader_step_47, s_Reader_step_50, s_Reader_step_51, s_Reader_step_54, s_Reader_step_57, s_Reader_step_58, s_Reader_step_59, s_Reader_step_60, s_Reader_step_63, s_Reader_step_64, s_Reader_step_65, s_Reader_step_68, s_Reader_step_71, s_Reader_step_72, s_Reader_step_75, s_Reader_step_78, s_Reader_step_79, s_Reader_step_80, s_Reader_step_83, s_Reader_step_84, s_Reader_step_87, s_Reader_step_90, s_Reader_step_91, s_Reader_step_94, s_Reader_step_97, s_Reader_step_98, s_Reader_step_99, s_Reader_step_102, s_Reader_step_103, s_Reader_step_106, s_Reader_step_109, s_Reader_step_110, s_Reader_step_111, s_Reader_step_113, s_Reader_step_116, s_Reader_step_117, s_Reader_step_120, s_Reader_step_121, s_Reader_step_124, s_Reader_step_125, s_Reader_step_126, s_Reader_step_129, s_Reader_step_130, s_Reader_step_131, s_Reader_step_134, ↓reduceIte, Nat.reduceEqDiff, Nat.reduceLT, am_top, ax_f_some, ax_k_some, ax_k_none, s8_0, s8_1, s8_2, s8_3, s8_4, c2p_n, c2p_i, c2p_r, c2p_z, okvp_i, okvp_l, okvp_r, okvp_n, okvp_z, okvp_z0, okvp_z1, bi_narp, am_nar0p, am_nar1p, bi_0, bi_1, true_and, and_true, rf_0, rf_9, r_is, ob, hs, e120, hc]
      subst hs
      exact hA
theorem R_step (h : TapeAt σ t f) (h1 : ¬ T = 31) (h2 : ¬ T = 32) (s : RS) (hs : s.be ≤ t) : ax k_Reader_step 0 [some (.ref 30), none] [] (rSt σ T w s) Q = Q none (rSt σ T w (nxC (aSee t f) t s)) := by
  refine R_skip h h1 h2 none _ (t + 1 - s.be) s.be s (by omega) rfl ?_
  have hk := askip_le (f := f) (t + 1 - s.be) s.be hs
  have ht := h.2.2.2
  unfold nxC
  generalize skipR (aSee t f) (t + 1 - s.be) s.be = p at hk ⊢
  have hX := tape_st (w := w) (s := (s.s_be p).s_st p) h h1 h2
  have ob : am_is (rSt σ T w ((s.s_be p).s_st p)) 31 7 = True := eq_true (is_of_fld hX.1)
  have l1 := fun (Q : Option Value → am_H → Prop) => R_letters (Q := Q) (w := w) h h1 h2 (t + 1 - p) p (((s.s_be p).s_st p).s_ki 1) (by omega) rfl
  have l2 := fun (Q : Option Value → am_H → Prop) => R_digits (Q := Q) (w := w) h h1 h2 (i := p) (s := ((s.s_be p).s_st p).s_ki 2) hk.1 rfl
  simp only [s_Reader_step_1, s_Reader_step_4, s_Reader_step_6, s_Reader_step_9, s_Reader_step_10, s_Reader_step_13, s_Reader_step_14, s_Reader_step_17, s_Reader_step_20, s_Reader_step_22, s_Reader_step_25, s_Reader_step_26, s_Reader_step_27, s_Reader_step_30, s_Reader_step_31, s_Reader_step_32, s_Reader_step_35, s_Reader_step_38, s_Reader_step_39, s_Reader_step_40, s_Reader_step_43, s_Reader_step_46, s_Reader_step_47, s_Reader_step_50, s_Reader_step_51, s_Reader_step_54, s_Reader_step_57, s_Reader_step_58, s_Reader_step_59, s_Reader_step_60, s_Reader_step_63, s_Reader_step_64, s_Reader_step_65, s_Reader_step_68, s_Reader_step_71, s_Reader_step_72, s_Reader_step_75, s_Reader_step_78, s_Reader_step_79, s_Reader_step_80, s_Reader_step_83, s_Reader_step_84, s_Reader_step_87, s_Reader_step_90, s_Reader_step_91, s_Reader_step_94, s_Reader_step_97, s_Reader_step_98, s_Reader_step_99, s_Reader_step_102, s_Reader_step_103, s_Reader_step_106, s_Reader_step_109, s_Reader_step_110, s_Reader_step_111, s_Reader_step_113, s_Reader_step_116, s_Reader_step_117, s_Reader_step_120, s_Reader_step_121, s_Reader_step_124, s_Reader_step_125, s_Reader_step_126, s_Reader_step_129, s_Reader_step_130, s_Reader_step_131, s_Reader_step_134, ↓reduceIte, Nat.reduceEqDiff, Nat.reduceLT, am_top, ax_f_some, ax_k_some, ax_k_none, s8_0, s8_1, s8_2, s8_3, s8_4, c2p_n, c2p_i, c2p_r, c2p_z, okvp_i, okvp_l, okvp_r, okvp_n, okvp_z, okvp_z0, okvp_z1, bi_narp, am_nar0p, am_nar1p, bi_0, bi_1, true_and, and_true, rf_0, rf_8, rf_9, rf_7, r_is, ob, rp_8, rp_7, R_byteAt hX (show p < 1000 by omega), R_isLetter, R_isDigit, l1, l2, nI_1, rp_9]
  by_cases c0 : aSee t f p = -1
  · simp only [if_pos c0]
  · by_cases c1 : ltr (aSee t f p) = true
    · simp only [if_neg c0, c1, Bool.true_eq_false, ↓reduceIte]
    · have c1' : ltr (aSee t f p) = false := by simpa using c1
      by_cases c2 : dgt (aSee t f p) = true
      · simp only [if_neg c0, c1', c2, Bool.true_eq_false, Bool.false_eq_true, ↓reduceIte]
      · have c2' : dgt (aSee t f p) = false := by simpa using c2
        by_cases c3 : aSee t f p = 59
        · simp only [if_neg c0, c1', c2', if_pos c3, Bool.false_eq_true, ↓reduceIte]
        · simp only [if_neg c0, c1', c2', if_neg c3, Bool.false_eq_true, ↓reduceIte]
/-- a String of n bytes g -/
def StrAt (σ : am_H) (a b n : Nat) (g : Nat → Int32) : Prop := am_fld σ a 12 0 = some (.ref b) ∧ am_fld σ a 12 1 = some (.int 0) ∧ am_j σ b = some (2, n, g) ∧ n < 100 ∧ ∀ j, j < n → ((g j &&& 255).toUInt32 % 65536).toInt32 = g j ∧ am_nar .char (g j) = true
theorem S_coder {a b n : Nat} {g : Nat → Int32} (h : StrAt σ a b n g) : ax k_String_coder 0 [some (.ref a)] [] σ Q = Q (some (.int 0)) σ := by
  obtain ⟨h1, h2, h3, h4, h5⟩ := h
  have n10 : ((1 : Int32) = 0) = False := eq_false (by decide)
  have nb : (am_nar .byte 0 = true) = True := eq_true (by decide)
  simp only [s_String_coder_0, s_String_coder_3, s_String_coder_6, s_String_coder_7, s_String_coder_10, s_String_coder_13, s_String_coder_14, ↓reduceIte, Nat.reduceEqDiff, Nat.reduceLT, am_top, ax_f_some, ax_k_some, ax_k_none, s8_0, s8_1, s8_2, s8_3, s8_4, c2p_n, c2p_i, c2p_r, c2p_z, okvp_i, okvp_l, okvp_r, okvp_n, okvp_z, okvp_z0, okvp_z1, bi_narp, am_nar0p, am_nar1p, bi_0, bi_1, true_and, and_true, h2, n10, nb]
theorem S_latin {a b n : Nat} {g : Nat → Int32} (h : StrAt σ a b n g) : ax k_String_isLatin1 0 [some (.ref a)] [] σ Q = Q (some (.int 1)) σ := by
  obtain ⟨h1, h2, h3, h4, h5⟩ := h
  have n10 : ((1 : Int32) = 0) = False := eq_false (by decide)
  simp only [s_String_isLatin1_0, s_String_isLatin1_3, s_String_isLatin1_6, s_String_isLatin1_7, s_String_isLatin1_10, s_String_isLatin1_13, s_String_isLatin1_14, s_String_isLatin1_17, s_String_isLatin1_18, ↓reduceIte, Nat.reduceEqDiff, Nat.reduceLT, am_top, ax_f_some, ax_k_some, ax_k_none, s8_0, s8_1, s8_2, s8_3, s8_4, c2p_n, c2p_i, c2p_r, c2p_z, okvp_i, okvp_l, okvp_r, okvp_n, okvp_z, okvp_z0, okvp_z1, bi_narp, am_nar0p, am_nar1p, bi_0, bi_1, true_and, and_true, h2, n10]
theorem S_length {a b n : Nat} {g : Nat → Int32} (h : StrAt σ a b n g) : ax k_String_length 0 [some (.ref a)] [] σ Q = Q (some (.int (nI n))) σ := by
  have hc := fun (Q : Option Value → am_H → Prop) => S_coder (Q := Q) h
  obtain ⟨h1, h2, h3, h4, h5⟩ := h
  have na := nv_of_j h3
  have ob : am_is σ a 12 = True := eq_true (is_of_fld h1)
  have e : (0 : Int32) &&& 31 = 0 := by decide
  simp only [s_String_length_0, s_String_length_1, s_String_length_4, s_String_length_5, s_String_length_6, s_String_length_9, s_String_length_10, ↓reduceIte, Nat.reduceEqDiff, Nat.reduceLT, am_top, ax_f_some, ax_k_some, ax_k_none, s8_0, s8_1, s8_2, s8_3, s8_4, c2p_n, c2p_i, c2p_r, c2p_z, okvp_i, okvp_l, okvp_r, okvp_n, okvp_z, okvp_z0, okvp_z1, bi_narp, am_nar0p, am_nar1p, bi_0, bi_1, true_and, and_true, h1, na, ob, hc, e, Int32.shiftRight_zero, ofNat_nI]
theorem S_charAt {a b n : Nat} {g : Nat → Int32} (h : StrAt σ a b n g) {j : Nat} (hj : j < n) : ax k_String_charAt 0 [some (.ref a), some (.int (nI j))] [] σ Q = Q (some (.int (g j))) σ := by
  have hl := fun (Q : Option Value → am_H → Prop) => S_latin (Q := Q) h
  obtain ⟨h1, h2, h3, h4, h5⟩ := h
  have na := nv_of_j h3
  have ob : am_is σ a 12 = True := eq_true (is_of_fld h1)
  have hp : ¬ nI j < 0 := nI_pos (by omega)
  have hc : nI j < nI n := nI_lt hj (by omega)
  have hix := ix_nI hj (by omega)
  have hcl : (nI j).toNatClampNeg = j := nI_clamp (by omega)
  have n10 : ((1 : Int32) = 0) = False := eq_false (by decide)
  obtain ⟨e1, e2⟩ := h5 j hj
  simp only [s_String_charAt_0, s_String_charAt_1, s_String_charAt_4, s_String_charAt_7, s_String_charAt_8, s_String_charAt_11, s_String_charAt_12, s_String_charAt_15, s_String_charAt_16, s_String_charAt_17, s_String_charAt_20, s_String_charAt_24, s_StringLatin1_charAt_0, s_StringLatin1_charAt_1, s_StringLatin1_charAt_2, s_StringLatin1_charAt_3, s_StringLatin1_charAt_6, s_StringLatin1_charAt_7, s_StringLatin1_charAt_8, s_StringLatin1_charAt_9, s_StringLatin1_charAt_12, s_StringLatin1_charAt_13, s_StringLatin1_charAt_14, s_String_checkIndex_0, s_String_checkIndex_1, s_String_checkIndex_2, s_String_checkIndex_5, s_String_checkIndex_8, s_String_checkIndex_9, s_Preconditions_checkIndex_0, s_Preconditions_checkIndex_1, s_Preconditions_checkIndex_4, s_Preconditions_checkIndex_5, s_Preconditions_checkIndex_6, s_Preconditions_checkIndex_9, s_Preconditions_checkIndex_9n, s_Preconditions_checkIndex_10, s_Preconditions_checkIndex_11, s_Preconditions_checkIndex_16, s_Preconditions_checkIndex_17, ↓reduceIte, Nat.reduceEqDiff, Nat.reduceLT, am_top, ax_f_some, ax_k_some, ax_k_none, s8_0, s8_1, s8_2, s8_3, s8_4, c2p_n, c2p_i, c2p_r, c2p_z, okvp_i, okvp_l, okvp_r, okvp_n, okvp_z, okvp_z0, okvp_z1, bi_narp, am_nar0p, am_nar1p, bi_0, bi_1, true_and, and_true, h1, h3, na, ob, hl, hp, hc, hix, hcl, e1, e2, n10, ofNat_nI, or_true]
def spL (T : Nat → Int32) (p : Nat) (g : Nat → Int32) : Nat → Nat → Bool
  | _, 0 => true
  | k, c + 1 => if T (p + k) = g k then spL T p g (k + 1) c else false
def spB (T : Nat → Int32) (s : RS) (n : Nat) (g : Nat → Int32) : Bool := decide (s.ki = 1) && (decide (nI s.be - nI s.st = nI n) && spL T s.st g 0 n)
theorem R_spells_loop (h : TapeAt σ t f) (h1 : ¬ T = 31) (h2 : ¬ T = 32) (s : RS) (hs : s.st ≤ t) {a b n : Nat} {g : Nat → Int32} (hS : StrAt (rSt σ T w s) a b n g) : ∀ j k, k + j = n → ax k_Reader_spells 28 [some (.ref 30), some (.ref a), some (.int (nI k))] [] (rSt σ T w s) Q = Q (some (.int (bi (spL (aSee t f) s.st g k j)))) (rSt σ T w s) := by
  have hX := tape_st (w := w) (s := s) h h1 h2
  have ht := h.2.2.2
  have ob : am_is (rSt σ T w s) 31 7 = True := eq_true (is_of_fld hX.1)
  have obs : am_is (rSt σ T w s) a 12 = True := eq_true (is_of_fld hS.1)
  have hn := hS.2.2.2.1
  intro j
  induction j with
  | zero =>
    intro k hk
    have hk : k = n := by omega
    subst hk
    have hc : ¬ nI k < nI k := Int32.lt_irrefl
    rw [s_Reader_spells_28]
    simp only [s_Reader_spells_0, s_Reader_spells_1, s_Reader_spells_4, s_Reader_spells_5, s_Reader_spells_8, s_Reader_spells_9, s_Reader_spells_12, s_Reader_spells_13, s_Reader_spells_16, s_Reader_spells_17, s_Reader_spells_17n, s_Reader_spells_18, s_Reader_spells_21, s_Reader_spells_24, s_Reader_spells_25, s_Reader_spells_26, s_Reader_spells_27, s_Reader_spells_29, s_Reader_spells_29n, s_Reader_spells_30, s_Reader_spells_33, s_Reader_spells_36, s_Reader_spells_37, s_Reader_spells_40, s_Reader_spells_41, s_Reader_spells_44, s_Reader_spells_45, s_Reader_spells_46, s_Reader_spells_49, s_Reader_spells_49n, s_Reader_spells_50, s_Reader_spells_51, s_Reader_spells_54, s_Reader_spells_57, s_Reader_spells_58, s_Reader_spells_59, s_Reader_spells_62, s_Reader_spells_65, s_Reader_spells_66, ↓reduceIte, Nat.reduceEqDiff, Nat.reduceLT, am_top, ax_f_some, ax_k_some, ax_k_none, s8_0, s8_1, s8_2, s8_3, s8_4, c2p_n, c2p_i, c2p_r, c2p_z, okvp_i, okvp_l, okvp_r, okvp_n, okvp_z, okvp_z0, okvp_z1, bi_narp, am_nar0p, am_nar1p, bi_0, bi_1, true_and, and_true, obs, S_length hS, hc, spL]
    rfl
  | succ j ih =>
    intro k hk
    have ih := ih (k + 1) (by omega)
    have hc : nI k < nI n := nI_lt (by omega) (by omega)
    rw [s_Reader_spells_28]
    simp only [s_Reader_spells_0, s_Reader_spells_1, s_Reader_spells_4, s_Reader_spells_5, s_Reader_spells_8, s_Reader_spells_9, s_Reader_spells_12, s_Reader_spells_13, s_Reader_spells_16, s_Reader_spells_17, s_Reader_spells_17n, s_Reader_spells_18, s_Reader_spells_21, s_Reader_spells_24, s_Reader_spells_25, s_Reader_spells_26, s_Reader_spells_27, s_Reader_spells_29, s_Reader_spells_29n, s_Reader_spells_30, s_Reader_spells_33, s_Reader_spells_36, s_Reader_spells_37, s_Reader_spells_40, s_Reader_spells_41, s_Reader_spells_44, s_Reader_spells_45, s_Reader_spells_46, s_Reader_spells_49, s_Reader_spells_49n, s_Reader_spells_50, s_Reader_spells_51, s_Reader_spells_54, s_Reader_spells_57, s_Reader_spells_58, s_Reader_spells_59, s_Reader_spells_62, s_Reader_spells_65, s_Reader_spells_66, ↓reduceIte, Nat.reduceEqDiff, Nat.reduceLT, am_top, ax_f_some, ax_k_some, ax_k_none, s8_0, s8_1, s8_2, s8_3, s8_4, c2p_n, c2p_i, c2p_r, c2p_z, okvp_i, okvp_l, okvp_r, okvp_n, okvp_z, okvp_z0, okvp_z1, bi_narp, am_nar0p, am_nar1p, bi_0, bi_1, true_and, and_true, obs, ob, S_length hS, S_charAt hS (show k < n by omega), hc, rf_0, rf_8, nI_add, R_byteAt hX (show s.st + k < 1000 by omega), nI_1, ih, spL]
    by_cases c : aSee t f (s.st + k) = g k
    · simp only [if_pos c]
    · simp only [if_neg c]
      rfl
theorem R_spells (h : TapeAt σ t f) (h1 : ¬ T = 31) (h2 : ¬ T = 32) (s : RS) (hs : s.st ≤ t) {a b n : Nat} {g : Nat → Int32} (hS : StrAt (rSt σ T w s) a b n g) : ax k_Reader_spells 0 [some (.ref 30), some (.ref a), none] [] (rSt σ T w s) Q = Q (some (.int (bi (spB (aSee t f) s n g)))) (rSt σ T w s) := by
  have hl := R_spells_loop (Q := Q) h h1 h2 s hs hS n 0 (by omega)
  rw [nI_0] at hl
  have obs : am_is (rSt σ T w s) a 12 = True := eq_true (is_of_fld hS.1)
  simp only [s_Reader_spells_0, s_Reader_spells_1, s_Reader_spells_4, s_Reader_spells_5, s_Reader_spells_8, s_Reader_spells_9, s_Reader_spells_12, s_Reader_spells_13, s_Reader_spells_16, s_Reader_spells_17, s_Reader_spells_17n, s_Reader_spells_18, s_Reader_spells_21, s_Reader_spells_24, s_Reader_spells_25, s_Reader_spells_26, s_Reader_spells_27, s_Reader_spells_29, s_Reader_spells_29n, s_Reader_spells_30, s_Reader_spells_33, s_Reader_spells_36, s_Reader_spells_37, s_Reader_spells_40, s_Reader_spells_41, s_Reader_spells_44, s_Reader_spells_45, s_Reader_spells_46, s_Reader_spells_49, s_Reader_spells_49n, s_Reader_spells_50, s_Reader_spells_51, s_Reader_spells_54, s_Reader_spells_57, s_Reader_spells_58, s_Reader_spells_59, s_Reader_spells_62, s_Reader_spells_65, s_Reader_spells_66, ↓reduceIte, Nat.reduceEqDiff, Nat.reduceLT, am_top, ax_f_some, ax_k_some, ax_k_none, s8_0, s8_1, s8_2, s8_3, s8_4, c2p_n, c2p_i, c2p_r, c2p_z, okvp_i, okvp_l, okvp_r, okvp_n, okvp_z, okvp_z0, okvp_z1, bi_narp, am_nar0p, am_nar1p, bi_0, bi_1, true_and, and_true, obs, S_length hS, rf_7, rf_8, rf_9, hl, spB]
  by_cases c1 : s.ki = 1
  · by_cases c2 : nI s.be - nI s.st = nI n
    · simp [c1, c2]
    · simp [c1, c2, bi]
  · simp [c1, bi]
end RD3
