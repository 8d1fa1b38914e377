/-! THE REFERENCE, 4: leaves, embargoes, captions, grids -/
theorem e16 : (16 : Int32) = nI 16 := by decide
theorem nar_of {v : Int32} (h : v = 0 ∨ v = 1) : (am_nar .boolean v = true) = True := by
  rcases h with rfl | rfl <;> exact eq_true rfl
def Z01 (f : Nat → Int32) : Prop := ∀ j, f j = 0 ∨ f j = 1
theorem lastF01 {ft fa fv : Nat → Int32} {t m d : Int32} (hd : d = 0 ∨ d = 1) (h : Z01 fv) : ∀ n, lastF ft fa fv t m d n = 0 ∨ lastF ft fa fv t m d n = 1 := by
  intro n
  induction n with
  | zero => exact hd
  | succ n ih =>
    simp only [lastF]
    split
    · split
      · exact ih
      · exact h n
    · exact ih
def hasF (cp cw ca cg : Nat → Int32) (p w m : Int32) (old : Bool) : Nat → Bool
  | 0 => false
  | n + 1 => if cp n = p then (if cw n = w then (if m < ca n then hasF cp cw ca cg p w m old n else !decide (cg n = 0) || (old && hasF cp cw ca cg p w m old n)) else hasF cp cw ca cg p w m old n) else hasF cp cw ca cg p w m old n
def farF (f : Nat → Int32) (i j : Nat) : Nat → Int32
  | 0 => 0
  | n + 1 => farF f i j n + (if f (16 * i + n) - f (16 * j + n) < 0 then -(f (16 * i + n) - f (16 * j + n)) else f (16 * i + n) - f (16 * j + n))
def mLeaveAt (σ : am_H) (n : Nat) (p m : Int32) : Int32 := lastF (ga σ 53) (ga σ 54) (ga σ 55) p m 1 n
def mEmbAt (σ : am_H) (n : Nat) (p m : Int32) : Int32 := lastF (ga σ 56) (ga σ 57) (ga σ 58) p m 0 n
def mHas (σ : am_H) (n : Nat) (p w m : Int32) (old : Bool) : Bool := hasF (ga σ 49) (ga σ 50) (ga σ 51) (ga σ 52) p w m old n
def mCap (σ : am_H) (n : Nat) (p w : Int32) (b : Bool) : am_H := am_put (am_set (am_set (am_set (am_set σ 49 (am_ia 0 200 (upd (ga σ 49) n p))) 50 (am_ia 0 200 (upd (ga σ 50) n w))) 51 (am_ia 0 200 (upd (ga σ 51) n (gi σ 40 11 0)))) 52 (am_ia 1 200 (upd (ga σ 52) n (bi b)))) 40 13 (.int (nI (n + 1)))
section M4
variable {σ : am_H} {Q : Option Value → am_H → Prop} {n : Nat}
theorem M_hasLeave_loop (h : SH σ) (hz : Z01 (ga σ 55)) (hn : gi σ 40 11 19 = nI n) (hle : n ≤ 100) (p m : Int32) : ∀ j k, k + j = n → ax k_M_hasLeave 5 [some (.ref 40), some (.int p), some (.int m), some (.int (mLeaveAt σ k p m)), some (.int (nI k))] [] σ Q = Q (some (.int (mLeaveAt σ n p m))) σ := by
  intro j
  induction j with
  | zero =>
    intro k hk
    have hk : k = n := by omega
    subst hk
    have hc : ¬ nI k < nI k := Int32.lt_irrefl
    rw [s_M_hasLeave_5]
    simp only [s_M_hasLeave_0, s_M_hasLeave_1, s_M_hasLeave_2, s_M_hasLeave_3, s_M_hasLeave_7, s_M_hasLeave_8, s_M_hasLeave_11, s_M_hasLeave_14, s_M_hasLeave_15, s_M_hasLeave_18, s_M_hasLeave_20, s_M_hasLeave_21, s_M_hasLeave_22, s_M_hasLeave_25, s_M_hasLeave_26, s_M_hasLeave_29, s_M_hasLeave_31, s_M_hasLeave_32, s_M_hasLeave_33, s_M_hasLeave_36, s_M_hasLeave_37, s_M_hasLeave_40, s_M_hasLeave_42, s_M_hasLeave_43, s_M_hasLeave_44, s_M_hasLeave_47, s_M_hasLeave_50, s_M_hasLeave_51, ↓reduceIte, Nat.reduceEqDiff, Nat.reduceLT, am_top, ax_f_some, ax_k_some, ax_k_none, s8_0, s8_1, s8_2, s8_3, s8_4, c2p_n, c2p_i, c2p_r, c2p_z, okvp_i, okvp_l, okvp_r, okvp_n, okvp_z, okvp_z0, okvp_z1, bi_narp, am_nar0p, am_nar1p, bi_0, bi_1, true_and, and_true, i_40_0 h, i_40_1 h, i_40_2 h, i_40_3 h, r_40_4 h, r_40_5 h, r_40_6 h, i_40_7 h, r_40_8 h, r_40_9 h, r_40_10 h, r_40_11 h, r_40_12 h, i_40_13 h, r_40_14 h, r_40_15 h, r_40_16 h, r_40_17 h, i_40_18 h, i_40_19 h, r_40_20 h, r_40_21 h, r_40_22 h, i_40_23 h, r_40_24 h, r_40_25 h, r_40_26 h, r_40_27 h, r_40_28 h, i_40_29 h, r_40_30 h, r_40_31 h, r_40_32 h, r_40_33 h, r_40_34 h, r_40_35 h, r_40_36 h, r_40_37 h, i_40_38 h, i_40_39 h, i_40_40 h, i_40_41 h, i_40_42 h, i_40_43 h, i_40_44 h, i_40_45 h, r_40_46 h, r_40_47 h, r_40_48 h, r_40_49 h, r_40_50 h, r_40_51 h, r_40_52 h, r_40_53 h, r_40_54 h, r_40_55 h, r_40_56 h, r_40_57 h, r_40_58 h, i_40_59 h, i_40_60 h, r_40_61 h, o_40 h, hn, hc, mLeaveAt, nar_of (lastF01 (Or.inr rfl) hz _)]
  | succ j ih =>
    intro k hk
    have ih := ih (k + 1) (by omega)
    have hc : nI k < nI n := nI_lt (by omega) (by omega)
    have hix := ix_nI (show k < 100 by omega) (by omega)
    have hcl : (nI k).toNatClampNeg = k := nI_clamp (by omega)
    rw [s_M_hasLeave_5]
    simp only [s_M_hasLeave_0, s_M_hasLeave_1, s_M_hasLeave_2, s_M_hasLeave_3, s_M_hasLeave_7, s_M_hasLeave_8, s_M_hasLeave_11, s_M_hasLeave_14, s_M_hasLeave_15, s_M_hasLeave_18, s_M_hasLeave_20, s_M_hasLeave_21, s_M_hasLeave_22, s_M_hasLeave_25, s_M_hasLeave_26, s_M_hasLeave_29, s_M_hasLeave_31, s_M_hasLeave_32, s_M_hasLeave_33, s_M_hasLeave_36, s_M_hasLeave_37, s_M_hasLeave_40, s_M_hasLeave_42, s_M_hasLeave_43, s_M_hasLeave_44, s_M_hasLeave_47, s_M_hasLeave_50, s_M_hasLeave_51, ↓reduceIte, Nat.reduceEqDiff, Nat.reduceLT, am_top, ax_f_some, ax_k_some, ax_k_none, s8_0, s8_1, s8_2, s8_3, s8_4, c2p_n, c2p_i, c2p_r, c2p_z, okvp_i, okvp_l, okvp_r, okvp_n, okvp_z, okvp_z0, okvp_z1, bi_narp, am_nar0p, am_nar1p, bi_0, bi_1, true_and, and_true, i_40_0 h, i_40_1 h, i_40_2 h, i_40_3 h, r_40_4 h, r_40_5 h, r_40_6 h, i_40_7 h, r_40_8 h, r_40_9 h, r_40_10 h, r_40_11 h, r_40_12 h, i_40_13 h, r_40_14 h, r_40_15 h, r_40_16 h, r_40_17 h, i_40_18 h, i_40_19 h, r_40_20 h, r_40_21 h, r_40_22 h, i_40_23 h, r_40_24 h, r_40_25 h, r_40_26 h, r_40_27 h, r_40_28 h, i_40_29 h, r_40_30 h, r_40_31 h, r_40_32 h, r_40_33 h, r_40_34 h, r_40_35 h, r_40_36 h, r_40_37 h, i_40_38 h, i_40_39 h, i_40_40 h, i_40_41 h, i_40_42 h, i_40_43 h, i_40_44 h, i_40_45 h, r_40_46 h, r_40_47 h, r_40_48 h, r_40_49 h, r_40_50 h, r_40_51 h, r_40_52 h, r_40_53 h, r_40_54 h, r_40_55 h, r_40_56 h, r_40_57 h, r_40_58 h, i_40_59 h, i_40_60 h, r_40_61 h, o_40 h, j_53 h, n_53 h, j_54 h, n_54 h, j_55 h, n_55 h, hn, hc, hix, hcl, nI_1, true_or]
    rw [← ih]
    by_cases h1 : ga σ 53 k = p
    · by_cases h2 : m < ga σ 54 k <;> simp only [h1, h2, mLeaveAt, lastF, ↓reduceIte]
    · simp only [h1, mLeaveAt, lastF, ↓reduceIte]
theorem M_hasLeave (h : SH σ) (hz : Z01 (ga σ 55)) (hn : gi σ 40 11 19 = nI n) (hle : n ≤ 100) (p m : Int32) : ax k_M_hasLeave 0 [some (.ref 40), some (.int p), some (.int m), none, none] [] σ Q = Q (some (.int (mLeaveAt σ n p m))) σ := by
  rw [← M_hasLeave_loop (Q := Q) h hz hn hle p m n 0 (by omega)]
  simp only [s_M_hasLeave_0, s_M_hasLeave_1, s_M_hasLeave_2, s_M_hasLeave_3, s_M_hasLeave_7, s_M_hasLeave_8, s_M_hasLeave_11, s_M_hasLeave_14, s_M_hasLeave_15, s_M_hasLeave_18, s_M_hasLeave_20, s_M_hasLeave_21, s_M_hasLeave_22, s_M_hasLeave_25, s_M_hasLeave_26, s_M_hasLeave_29, s_M_hasLeave_31, s_M_hasLeave_32, s_M_hasLeave_33, s_M_hasLeave_36, s_M_hasLeave_37, s_M_hasLeave_40, s_M_hasLeave_42, s_M_hasLeave_43, s_M_hasLeave_44, s_M_hasLeave_47, s_M_hasLeave_50, s_M_hasLeave_51, ↓reduceIte, Nat.reduceEqDiff, Nat.reduceLT, am_top, ax_f_some, ax_k_some, ax_k_none, s8_0, s8_1, s8_2, s8_3, s8_4, c2p_n, c2p_i, c2p_r, c2p_z, okvp_i, okvp_l, okvp_r, okvp_n, okvp_z, okvp_z0, okvp_z1, bi_narp, am_nar0p, am_nar1p, bi_0, bi_1, true_and, and_true, mLeaveAt, lastF, nI_0]
theorem M_embargoed_loop (h : SH σ) (hn : gi σ 40 11 23 = nI n) (hle : n ≤ 100) (p m : Int32) : ∀ j k, k + j = n → ax k_M_embargoed 5 [some (.ref 40), some (.int p), some (.int m), some (.int (mEmbAt σ k p m)), some (.int (nI k))] [] σ Q = Q (some (.int (mEmbAt σ n p m))) σ := by
  intro j
  induction j with
  | zero =>
    intro k hk
    have hk : k = n := by omega
    subst hk
    have hc : ¬ nI k < nI k := Int32.lt_irrefl
    rw [s_M_embargoed_5]
    simp only [s_M_embargoed_0, s_M_embargoed_1, s_M_embargoed_2, s_M_embargoed_3, s_M_embargoed_7, s_M_embargoed_8, s_M_embargoed_11, s_M_embargoed_14, s_M_embargoed_15, s_M_embargoed_18, s_M_embargoed_20, s_M_embargoed_21, s_M_embargoed_22, s_M_embargoed_25, s_M_embargoed_26, s_M_embargoed_29, s_M_embargoed_31, s_M_embargoed_32, s_M_embargoed_33, s_M_embargoed_36, s_M_embargoed_37, s_M_embargoed_40, s_M_embargoed_42, s_M_embargoed_43, s_M_embargoed_44, s_M_embargoed_47, s_M_embargoed_50, s_M_embargoed_51, ↓reduceIte, Nat.reduceEqDiff, Nat.reduceLT, am_top, ax_f_some, ax_k_some, ax_k_none, s8_0, s8_1, s8_2, s8_3, s8_4, c2p_n, c2p_i, c2p_r, c2p_z, okvp_i, okvp_l, okvp_r, okvp_n, okvp_z, okvp_z0, okvp_z1, bi_narp, am_nar0p, am_nar1p, bi_0, bi_1, true_and, and_true, i_40_0 h, i_40_1 h, i_40_2 h, i_40_3 h, r_40_4 h, r_40_5 h, r_40_6 h, i_40_7 h, r_40_8 h, r_40_9 h, r_40_10 h, r_40_11 h, r_40_12 h, i_40_13 h, r_40_14 h, r_40_15 h, r_40_16 h, r_40_17 h, i_40_18 h, i_40_19 h, r_40_20 h, r_40_21 h, r_40_22 h, i_40_23 h, r_40_24 h, r_40_25 h, r_40_26 h, r_40_27 h, r_40_28 h, i_40_29 h, r_40_30 h, r_40_31 h, r_40_32 h, r_40_33 h, r_40_34 h, r_40_35 h, r_40_36 h, r_40_37 h, i_40_38 h, i_40_39 h, i_40_40 h, i_40_41 h, i_40_42 h, i_40_43 h, i_40_44 h, i_40_45 h, r_40_46 h, r_40_47 h, r_40_48 h, r_40_49 h, r_40_50 h, r_40_51 h, r_40_52 h, r_40_53 h, r_40_54 h, r_40_55 h, r_40_56 h, r_40_57 h, r_40_58 h, i_40_59 h, i_40_60 h, r_40_61 h, o_40 h, hn, hc]
  | succ j ih =>
    intro k hk
    have ih := ih (k + 1) (by omega)
    have hc : nI k < nI n := nI_lt (by omega) (by omega)
    have hix := ix_nI (show k < 100 by omega) (by omega)
    have hcl : (nI k).toNatClampNeg = k := nI_clamp (by omega)
    rw [s_M_embargoed_5]
    simp only [s_M_embargoed_0, s_M_embargoed_1, s_M_embargoed_2, s_M_embargoed_3, s_M_embargoed_7, s_M_embargoed_8, s_M_embargoed_11, s_M_embargoed_14, s_M_embargoed_15, s_M_embargoed_18, s_M_embargoed_20, s_M_embargoed_21, s_M_embargoed_22, s_M_embargoed_25, s_M_embargoed_26, s_M_embargoed_29, s_M_embargoed_31, s_M_embargoed_32, s_M_embargoed_33, s_M_embargoed_36, s_M_embargoed_37, s_M_embargoed_40, s_M_embargoed_42, s_M_embargoed_43, s_M_embargoed_44, s_M_embargoed_47, s_M_embargoed_50, s_M_embargoed_51, ↓reduceIte, Nat.reduceEqDiff, Nat.reduceLT, am_top, ax_f_some, ax_k_some, ax_k_none, s8_0, s8_1, s8_2, s8_3, s8_4, c2p_n, c2p_i, c2p_r, c2p_z, okvp_i, okvp_l, okvp_r, okvp_n, okvp_z, okvp_z0, okvp_z1, bi_narp, am_nar0p, am_nar1p, bi_0, bi_1, true_and, and_true, i_40_0 h, i_40_1 h, i_40_2 h, i_40_3 h, r_40_4 h, r_40_5 h, r_40_6 h, i_40_7 h, r_40_8 h, r_40_9 h, r_40_10 h, r_40_11 h, r_40_12 h, i_40_13 h, r_40_14 h, r_40_15 h, r_40_16 h, r_40_17 h, i_40_18 h, i_40_19 h, r_40_20 h, r_40_21 h, r_40_22 h, i_40_23 h, r_40_24 h, r_40_25 h, r_40_26 h, r_40_27 h, r_40_28 h, i_40_29 h, r_40_30 h, r_40_31 h, r_40_32 h, r_40_33 h, r_40_34 h, r_40_35 h, r_40_36 h, r_40_37 h, i_40_38 h, i_40_39 h, i_40_40 h, i_40_41 h, i_40_42 h, i_40_43 h, i_40_44 h, i_40_45 h, r_40_46 h, r_40_47 h, r_40_48 h, r_40_49 h, r_40_50 h, r_40_51 h, r_40_52 h, r_40_53 h, r_40_54 h, r_40_55 h, r_40_56 h, r_40_57 h, r_40_58 h, i_40_59 h, i_40_60 h, r_40_61 h, o_40 h, j_56 h, n_56 h, j_57 h, n_57 h, j_58 h, n_58 h, hn, hc, hix, hcl, nI_1]
    rw [← ih]
    by_cases h1 : ga σ 56 k = p
    · by_cases h2 : m < ga σ 57 k <;> simp only [h1, h2, mEmbAt, lastF, ↓reduceIte]
    · simp only [h1, mEmbAt, lastF, ↓reduceIte]
theorem M_embargoed (h : SH σ) (hn : gi σ 40 11 23 = nI n) (hle : n ≤ 100) (p m : Int32) : ax k_M_embargoed 0 [some (.ref 40), some (.int p), some (.int m), none, none] [] σ Q = Q (some (.int (mEmbAt σ n p m))) σ := by
  rw [← M_embargoed_loop (Q := Q) h hn hle p m n 0 (by omega)]
  simp only [s_M_embargoed_0, s_M_embargoed_1, s_M_embargoed_2, s_M_embargoed_3, s_M_embargoed_7, s_M_embargoed_8, s_M_embargoed_11, s_M_embargoed_14, s_M_embargoed_15, s_M_embargoed_18, s_M_embargoed_20, s_M_embargoed_21, s_M_embargoed_22, s_M_embargoed_25, s_M_embargoed_26, s_M_embargoed_29, s_M_embargoed_31, s_M_embargoed_32, s_M_embargoed_33, s_M_embargoed_36, s_M_embargoed_37, s_M_embargoed_40, s_M_embargoed_42, s_M_embargoed_43, s_M_embargoed_44, s_M_embargoed_47, s_M_embargoed_50, s_M_embargoed_51, ↓reduceIte, Nat.reduceEqDiff, Nat.reduceLT, am_top, ax_f_some, ax_k_some, ax_k_none, s8_0, s8_1, s8_2, s8_3, s8_4, c2p_n, c2p_i, c2p_r, c2p_z, okvp_i, okvp_l, okvp_r, okvp_n, okvp_z, okvp_z0, okvp_z1, bi_narp, am_nar0p, am_nar1p, bi_0, bi_1, true_and, and_true, mEmbAt, lastF, nI_0]
theorem M_hasJust_loop (h : SH σ) (hn : gi σ 40 11 13 = nI n) (hle : n ≤ 200) (p w m : Int32) (old : Bool) : ∀ j k, k + j = n → ax k_M_hasJust 6 [some (.ref 40), some (.int p), some (.int w), some (.int m), some (.int (bi old)), some (.int (bi (mHas σ k p w m old))), some (.int (nI k))] [] σ Q = Q (some (.int (bi (mHas σ n p w m old)))) σ := by
  intro j
  induction j with
  | zero =>
    intro k hk
    have hk : k = n := by omega
    subst hk
    have hc : ¬ nI k < nI k := Int32.lt_irrefl
    rw [s_M_hasJust_6]
    simp only [s_M_hasJust_0, s_M_hasJust_1, s_M_hasJust_3, s_M_hasJust_4, s_M_hasJust_8, s_M_hasJust_9, s_M_hasJust_12, s_M_hasJust_15, s_M_hasJust_16, s_M_hasJust_19, s_M_hasJust_21, s_M_hasJust_22, s_M_hasJust_23, s_M_hasJust_26, s_M_hasJust_27, s_M_hasJust_30, s_M_hasJust_32, s_M_hasJust_33, s_M_hasJust_34, s_M_hasJust_37, s_M_hasJust_38, s_M_hasJust_41, s_M_hasJust_43, s_M_hasJust_44, s_M_hasJust_45, s_M_hasJust_48, s_M_hasJust_49, s_M_hasJust_52, s_M_hasJust_54, s_M_hasJust_55, s_M_hasJust_58, s_M_hasJust_60, s_M_hasJust_63, s_M_hasJust_65, s_M_hasJust_68, s_M_hasJust_69, s_M_hasJust_72, s_M_hasJust_73, s_M_hasJust_75, s_M_hasJust_78, s_M_hasJust_81, s_M_hasJust_83, ↓reduceIte, Nat.reduceEqDiff, Nat.reduceLT, am_top, ax_f_some, ax_k_some, ax_k_none, s8_0, s8_1, s8_2, s8_3, s8_4, c2p_n, c2p_i, c2p_r, c2p_z, okvp_i, okvp_l, okvp_r, okvp_n, okvp_z, okvp_z0, okvp_z1, bi_narp, am_nar0p, am_nar1p, bi_0, bi_1, true_and, and_true, i_40_0 h, i_40_1 h, i_40_2 h, i_40_3 h, r_40_4 h, r_40_5 h, r_40_6 h, i_40_7 h, r_40_8 h, r_40_9 h, r_40_10 h, r_40_11 h, r_40_12 h, i_40_13 h, r_40_14 h, r_40_15 h, r_40_16 h, r_40_17 h, i_40_18 h, i_40_19 h, r_40_20 h, r_40_21 h, r_40_22 h, i_40_23 h, r_40_24 h, r_40_25 h, r_40_26 h, r_40_27 h, r_40_28 h, i_40_29 h, r_40_30 h, r_40_31 h, r_40_32 h, r_40_33 h, r_40_34 h, r_40_35 h, r_40_36 h, r_40_37 h, i_40_38 h, i_40_39 h, i_40_40 h, i_40_41 h, i_40_42 h, i_40_43 h, i_40_44 h, i_40_45 h, r_40_46 h, r_40_47 h, r_40_48 h, r_40_49 h, r_40_50 h, r_40_51 h, r_40_52 h, r_40_53 h, r_40_54 h, r_40_55 h, r_40_56 h, r_40_57 h, r_40_58 h, i_40_59 h, i_40_60 h, r_40_61 h, o_40 h, hn, hc]
  | succ j ih =>
    intro k hk
    have ih := ih (k + 1) (by omega)
    have hc : nI k < nI n := nI_lt (by omega) (by omega)
    have hix := ix_nI (show k < 200 by omega) (by omega)
    have hcl : (nI k).toNatClampNeg = k := nI_clamp (by omega)
    rw [s_M_hasJust_6]
    simp only [s_M_hasJust_0, s_M_hasJust_1, s_M_hasJust_3, s_M_hasJust_4, s_M_hasJust_8, s_M_hasJust_9, s_M_hasJust_12, s_M_hasJust_15, s_M_hasJust_16, s_M_hasJust_19, s_M_hasJust_21, s_M_hasJust_22, s_M_hasJust_23, s_M_hasJust_26, s_M_hasJust_27, s_M_hasJust_30, s_M_hasJust_32, s_M_hasJust_33, s_M_hasJust_34, s_M_hasJust_37, s_M_hasJust_38, s_M_hasJust_41, s_M_hasJust_43, s_M_hasJust_44, s_M_hasJust_45, s_M_hasJust_48, s_M_hasJust_49, s_M_hasJust_52, s_M_hasJust_54, s_M_hasJust_55, s_M_hasJust_58, s_M_hasJust_60, s_M_hasJust_63, s_M_hasJust_65, s_M_hasJust_68, s_M_hasJust_69, s_M_hasJust_72, s_M_hasJust_73, s_M_hasJust_75, s_M_hasJust_78, s_M_hasJust_81, s_M_hasJust_83, ↓reduceIte, Nat.reduceEqDiff, Nat.reduceLT, am_top, ax_f_some, ax_k_some, ax_k_none, s8_0, s8_1, s8_2, s8_3, s8_4, c2p_n, c2p_i, c2p_r, c2p_z, okvp_i, okvp_l, okvp_r, okvp_n, okvp_z, okvp_z0, okvp_z1, bi_narp, am_nar0p, am_nar1p, bi_0, bi_1, true_and, and_true, i_40_0 h, i_40_1 h, i_40_2 h, i_40_3 h, r_40_4 h, r_40_5 h, r_40_6 h, i_40_7 h, r_40_8 h, r_40_9 h, r_40_10 h, r_40_11 h, r_40_12 h, i_40_13 h, r_40_14 h, r_40_15 h, r_40_16 h, r_40_17 h, i_40_18 h, i_40_19 h, r_40_20 h, r_40_21 h, r_40_22 h, i_40_23 h, r_40_24 h, r_40_25 h, r_40_26 h, r_40_27 h, r_40_28 h, i_40_29 h, r_40_30 h, r_40_31 h, r_40_32 h, r_40_33 h, r_40_34 h, r_40_35 h, r_40_36 h, r_40_37 h, i_40_38 h, i_40_39 h, i_40_40 h, i_40_41 h, i_40_42 h, i_40_43 h, i_40_44 h, i_40_45 h, r_40_46 h, r_40_47 h, r_40_48 h, r_40_49 h, r_40_50 h, r_40_51 h, r_40_52 h, r_40_53 h, r_40_54 h, r_40_55 h, r_40_56 h, r_40_57 h, r_40_58 h, i_40_59 h, i_40_60 h, r_40_61 h, o_40 h, j_49 h, n_49 h, j_50 h, n_50 h, j_51 h, n_51 h, j_52 h, n_52 h, hn, hc, hix, hcl, nI_1, true_or]
    rw [← ih]
    by_cases h1 : ga σ 49 k = p
    · by_cases h2 : ga σ 50 k = w
      · by_cases h3 : m < ga σ 51 k
        · simp only [h1, h2, h3, mHas, hasF, ↓reduceIte]
        · by_cases h4 : ga σ 52 k = 0
          · cases old <;> cases hh : mHas σ k p w m _ <;> simp [h1, h2, h3, h4, hh, mHas, hasF, bi] <;> (try (simp only [mHas] at hh)) <;> simp [hh]
          · simp [h1, h2, h3, h4, mHas, hasF, bi]
      · simp only [h1, h2, mHas, hasF, ↓reduceIte]
    · simp only [h1, mHas, hasF, ↓reduceIte]
theorem M_hasJust (h : SH σ) (hn : gi σ 40 11 13 = nI n) (hle : n ≤ 200) (p w m : Int32) (old : Bool) : ax k_M_hasJust 0 [some (.ref 40), some (.int p), some (.int w), some (.int m), some (.int (bi old)), none, none] [] σ Q = Q (some (.int (bi (mHas σ n p w m old)))) σ := by
  rw [← M_hasJust_loop (Q := Q) h hn hle p w m old n 0 (by omega)]
  simp only [s_M_hasJust_0, s_M_hasJust_1, s_M_hasJust_3, s_M_hasJust_4, s_M_hasJust_8, s_M_hasJust_9, s_M_hasJust_12, s_M_hasJust_15, s_M_hasJust_16, s_M_hasJust_19, s_M_hasJust_21, s_M_hasJust_22, s_M_hasJust_23, s_M_hasJust_26, s_M_hasJust_27, s_M_hasJust_30, s_M_hasJust_32, s_M_hasJust_33, s_M_hasJust_34, s_M_hasJust_37, s_M_hasJust_38, s_M_hasJust_41, s_M_hasJust_43, s_M_hasJust_44, s_M_hasJust_45, s_M_hasJust_48, s_M_hasJust_49, s_M_hasJust_52, s_M_hasJust_54, s_M_hasJust_55, s_M_hasJust_58, s_M_hasJust_60, s_M_hasJust_63, s_M_hasJust_65, s_M_hasJust_68, s_M_hasJust_69, s_M_hasJust_72, s_M_hasJust_73, s_M_hasJust_75, s_M_hasJust_78, s_M_hasJust_81, s_M_hasJust_83, ↓reduceIte, Nat.reduceEqDiff, Nat.reduceLT, am_top, ax_f_some, ax_k_some, ax_k_none, s8_0, s8_1, s8_2, s8_3, s8_4, c2p_n, c2p_i, c2p_r, c2p_z, okvp_i, okvp_l, okvp_r, okvp_n, okvp_z, okvp_z0, okvp_z1, bi_narp, am_nar0p, am_nar1p, bi_0, bi_1, true_and, and_true, mHas, hasF, nI_0, bi, Bool.false_eq_true]
theorem M_farOf_loop (h : SH σ) {i j : Nat} (hi : i < 40) (hj : j < 40) : ∀ r k, k + r = 16 → ∀ z : Option Value, ax k_M_farOf 5 [some (.ref 40), some (.int (nI i)), some (.int (nI j)), some (.int (farF (ga σ 48) i j k)), some (.int (nI k)), z] [] σ Q = Q (some (.int (farF (ga σ 48) i j 16))) σ := by
  intro r
  induction r with
  | zero =>
    intro k hk z
    have hk : k = 16 := by omega
    subst hk
    have hc : ¬ nI 16 < nI 16 := Int32.lt_irrefl
    rw [s_M_farOf_5]
    simp only [s_M_farOf_0, s_M_farOf_1, s_M_farOf_2, s_M_farOf_3, s_M_farOf_7, s_M_farOf_9, s_M_farOf_12, s_M_farOf_13, s_M_farOf_16, s_M_farOf_18, s_M_farOf_19, s_M_farOf_20, s_M_farOf_22, s_M_farOf_23, s_M_farOf_24, s_M_farOf_25, s_M_farOf_28, s_M_farOf_30, s_M_farOf_31, s_M_farOf_32, s_M_farOf_34, s_M_farOf_35, s_M_farOf_36, s_M_farOf_37, s_M_farOf_39, s_M_farOf_40, s_M_farOf_42, s_M_farOf_45, s_M_farOf_47, s_M_farOf_48, s_M_farOf_51, s_M_farOf_53, s_M_farOf_54, s_M_farOf_55, s_M_farOf_58, s_M_farOf_61, s_M_farOf_62, ↓reduceIte, Nat.reduceEqDiff, Nat.reduceLT, am_top, ax_f_some, ax_k_some, ax_k_none, s8_0, s8_1, s8_2, s8_3, s8_4, c2p_n, c2p_i, c2p_r, c2p_z, okvp_i, okvp_l, okvp_r, okvp_n, okvp_z, okvp_z0, okvp_z1, bi_narp, am_nar0p, am_nar1p, bi_0, bi_1, true_and, and_true, e16, hc]
  | succ r ih =>
    intro k hk z
    have hc : nI k < nI 16 := nI_lt (by omega) (by omega)
    have hix1 := ix_nI (show 16 * i + k < 640 by omega) (by omega)
    have hcl1 : (nI (16 * i + k)).toNatClampNeg = 16 * i + k := nI_clamp (by omega)
    have hix2 := ix_nI (show 16 * j + k < 640 by omega) (by omega)
    have hcl2 : (nI (16 * j + k)).toNatClampNeg = 16 * j + k := nI_clamp (by omega)
    rw [s_M_farOf_5]
    simp only [s_M_farOf_0, s_M_farOf_1, s_M_farOf_2, s_M_farOf_3, s_M_farOf_7, s_M_farOf_9, s_M_farOf_12, s_M_farOf_13, s_M_farOf_16, s_M_farOf_18, s_M_farOf_19, s_M_farOf_20, s_M_farOf_22, s_M_farOf_23, s_M_farOf_24, s_M_farOf_25, s_M_farOf_28, s_M_farOf_30, s_M_farOf_31, s_M_farOf_32, s_M_farOf_34, s_M_farOf_35, s_M_farOf_36, s_M_farOf_37, s_M_farOf_39, s_M_farOf_40, s_M_farOf_42, s_M_farOf_45, s_M_farOf_47, s_M_farOf_48, s_M_farOf_51, s_M_farOf_53, s_M_farOf_54, s_M_farOf_55, s_M_farOf_58, s_M_farOf_61, s_M_farOf_62, ↓reduceIte, Nat.reduceEqDiff, Nat.reduceLT, am_top, ax_f_some, ax_k_some, ax_k_none, s8_0, s8_1, s8_2, s8_3, s8_4, c2p_n, c2p_i, c2p_r, c2p_z, okvp_i, okvp_l, okvp_r, okvp_n, okvp_z, okvp_z0, okvp_z1, bi_narp, am_nar0p, am_nar1p, bi_0, bi_1, true_and, and_true, i_40_0 h, i_40_1 h, i_40_2 h, i_40_3 h, r_40_4 h, r_40_5 h, r_40_6 h, i_40_7 h, r_40_8 h, r_40_9 h, r_40_10 h, r_40_11 h, r_40_12 h, i_40_13 h, r_40_14 h, r_40_15 h, r_40_16 h, r_40_17 h, i_40_18 h, i_40_19 h, r_40_20 h, r_40_21 h, r_40_22 h, i_40_23 h, r_40_24 h, r_40_25 h, r_40_26 h, r_40_27 h, r_40_28 h, i_40_29 h, r_40_30 h, r_40_31 h, r_40_32 h, r_40_33 h, r_40_34 h, r_40_35 h, r_40_36 h, r_40_37 h, i_40_38 h, i_40_39 h, i_40_40 h, i_40_41 h, i_40_42 h, i_40_43 h, i_40_44 h, i_40_45 h, r_40_46 h, r_40_47 h, r_40_48 h, r_40_49 h, r_40_50 h, r_40_51 h, r_40_52 h, r_40_53 h, r_40_54 h, r_40_55 h, r_40_56 h, r_40_57 h, r_40_58 h, i_40_59 h, i_40_60 h, r_40_61 h, o_40 h, j_48 h, n_48 h, e16, hc, pk_mul, nI_add, hix1, hix2, hcl1, hcl2, nI_1]
    by_cases h1 : ga σ 48 (16 * i + k) - ga σ 48 (16 * j + k) < 0
    · have ih := ih (k + 1) (by omega) (some (.int (ga σ 48 (16 * i + k) - ga σ 48 (16 * j + k))))
      simp only [farF, h1, ↓reduceIte] at ih ⊢
      exact ih
    · have ih := ih (k + 1) (by omega) (some (.int (ga σ 48 (16 * i + k) - ga σ 48 (16 * j + k))))
      simp only [farF, h1, ↓reduceIte] at ih ⊢
      exact ih
theorem M_farOf (h : SH σ) {i j : Nat} (hi : i < 40) (hj : j < 40) : ax k_M_farOf 0 [some (.ref 40), some (.int (nI i)), some (.int (nI j)), none, none, none] [] σ Q = Q (some (.int (farF (ga σ 48) i j 16))) σ := by
  rw [← M_farOf_loop (Q := Q) h hi hj 16 0 (by omega) none]
  simp only [s_M_farOf_0, s_M_farOf_1, s_M_farOf_2, s_M_farOf_3, s_M_farOf_7, s_M_farOf_9, s_M_farOf_12, s_M_farOf_13, s_M_farOf_16, s_M_farOf_18, s_M_farOf_19, s_M_farOf_20, s_M_farOf_22, s_M_farOf_23, s_M_farOf_24, s_M_farOf_25, s_M_farOf_28, s_M_farOf_30, s_M_farOf_31, s_M_farOf_32, s_M_farOf_34, s_M_farOf_35, s_M_farOf_36, s_M_farOf_37, s_M_farOf_39, s_M_farOf_40, s_M_farOf_42, s_M_farOf_45, s_M_farOf_47, s_M_farOf_48, s_M_farOf_51, s_M_farOf_53, s_M_farOf_54, s_M_farOf_55, s_M_farOf_58, s_M_farOf_61, s_M_farOf_62, ↓reduceIte, Nat.reduceEqDiff, Nat.reduceLT, am_top, ax_f_some, ax_k_some, ax_k_none, s8_0, s8_1, s8_2, s8_3, s8_4, c2p_n, c2p_i, c2p_r, c2p_z, okvp_i, okvp_l, okvp_r, okvp_n, okvp_z, okvp_z0, okvp_z1, bi_narp, am_nar0p, am_nar1p, bi_0, bi_1, true_and, and_true, farF, nI_0]
theorem M_caption (h : SH σ) (hn : gi σ 40 11 13 = nI n) (hle : n ≤ 200) (p w : Int32) (b : Bool) : ax k_M_caption 0 [some (.ref 40), some (.int p), some (.int w), some (.int (bi b))] [] σ Q = (if ((inB p 0 (gi σ 40 11 7 - 1) = true ∧ inB w 0 (gi σ 40 11 1 - 1) = true) ∧ ¬ n = 200) ∧ ¬ mHas σ n p w (gi σ 40 11 0) false = b then Q (some (.int 1)) (mCap σ n p w b) else Q (some (.int 0)) σ) := by
  have hb0 : bi false = 0 := rfl
  have hj := fun (p w m : Int32) (Q : Option Value → am_H → Prop) => M_hasJust (Q := Q) h hn hle p w m false
  rw [hb0] at hj
  have hbb : ∀ x y : Bool, (bi x = bi y) = (x = y) := by intro x y; cases x <;> cases y <;> simp [bi]
  by_cases h3 : n = 200
  · simp only [s_M_caption_0, s_M_caption_1, s_M_caption_2, s_M_caption_5, s_M_caption_8, s_M_caption_9, s_M_caption_10, s_M_caption_13, s_M_caption_16, s_M_caption_17, s_M_caption_20, s_M_caption_23, s_M_caption_26, s_M_caption_27, s_M_caption_28, s_M_caption_29, s_M_caption_30, s_M_caption_33, s_M_caption_34, s_M_caption_37, s_M_caption_38, s_M_caption_41, s_M_caption_42, s_M_caption_43, s_M_caption_44, s_M_caption_47, s_M_caption_48, s_M_caption_51, s_M_caption_52, s_M_caption_53, s_M_caption_54, s_M_caption_57, s_M_caption_58, s_M_caption_61, s_M_caption_62, s_M_caption_63, s_M_caption_64, s_M_caption_67, s_M_caption_68, s_M_caption_71, s_M_caption_72, s_M_caption_75, s_M_caption_76, s_M_caption_77, s_M_caption_80, s_M_caption_81, s_M_caption_84, s_M_caption_85, s_M_caption_86, s_M_caption_87, s_M_caption_88, s_M_caption_91, s_M_caption_92, s_M_caption_93, s_M_caption_96, s_M_caption_97, ↓reduceIte, Nat.reduceEqDiff, Nat.reduceLT, am_top, ax_f_some, ax_k_some, ax_k_none, s8_0, s8_1, s8_2, s8_3, s8_4, c2p_n, c2p_i, c2p_r, c2p_z, okvp_i, okvp_l, okvp_r, okvp_n, okvp_z, okvp_z0, okvp_z1, bi_narp, am_nar0p, am_nar1p, bi_0, bi_1, true_and, and_true, i_40_0 h, i_40_1 h, i_40_2 h, i_40_3 h, r_40_4 h, r_40_5 h, r_40_6 h, i_40_7 h, r_40_8 h, r_40_9 h, r_40_10 h, r_40_11 h, r_40_12 h, i_40_13 h, r_40_14 h, r_40_15 h, r_40_16 h, r_40_17 h, i_40_18 h, i_40_19 h, r_40_20 h, r_40_21 h, r_40_22 h, i_40_23 h, r_40_24 h, r_40_25 h, r_40_26 h, r_40_27 h, r_40_28 h, i_40_29 h, r_40_30 h, r_40_31 h, r_40_32 h, r_40_33 h, r_40_34 h, r_40_35 h, r_40_36 h, r_40_37 h, i_40_38 h, i_40_39 h, i_40_40 h, i_40_41 h, i_40_42 h, i_40_43 h, i_40_44 h, i_40_45 h, r_40_46 h, r_40_47 h, r_40_48 h, r_40_49 h, r_40_50 h, r_40_51 h, r_40_52 h, r_40_53 h, r_40_54 h, r_40_55 h, r_40_56 h, r_40_57 h, r_40_58 h, i_40_59 h, i_40_60 h, r_40_61 h, o_40 h, hn, M_isWord 40 _ _ (i_40_1 h), M_isPicture 40 _ _ (i_40_7 h), e200, nI_eqc (show n < 2 ^ 31 by omega) (show 200 < 2 ^ 31 by decide), h3]
    by_cases h1 : inB p 0 (gi σ 40 11 7 - 1) = true <;> by_cases h2 : inB w 0 (gi σ 40 11 1 - 1) = true <;> simp [h1, h2]
  · have hix := ix_nI (show n < 200 by omega) (by omega)
    have hcl : (nI n).toNatClampNeg = n := nI_clamp (by omega)
    simp only [s_M_caption_0, s_M_caption_1, s_M_caption_2, s_M_caption_5, s_M_caption_8, s_M_caption_9, s_M_caption_10, s_M_caption_13, s_M_caption_16, s_M_caption_17, s_M_caption_20, s_M_caption_23, s_M_caption_26, s_M_caption_27, s_M_caption_28, s_M_caption_29, s_M_caption_30, s_M_caption_33, s_M_caption_34, s_M_caption_37, s_M_caption_38, s_M_caption_41, s_M_caption_42, s_M_caption_43, s_M_caption_44, s_M_caption_47, s_M_caption_48, s_M_caption_51, s_M_caption_52, s_M_caption_53, s_M_caption_54, s_M_caption_57, s_M_caption_58, s_M_caption_61, s_M_caption_62, s_M_caption_63, s_M_caption_64, s_M_caption_67, s_M_caption_68, s_M_caption_71, s_M_caption_72, s_M_caption_75, s_M_caption_76, s_M_caption_77, s_M_caption_80, s_M_caption_81, s_M_caption_84, s_M_caption_85, s_M_caption_86, s_M_caption_87, s_M_caption_88, s_M_caption_91, s_M_caption_92, s_M_caption_93, s_M_caption_96, s_M_caption_97, ↓reduceIte, Nat.reduceEqDiff, Nat.reduceLT, am_top, ax_f_some, ax_k_some, ax_k_none, s8_0, s8_1, s8_2, s8_3, s8_4, c2p_n, c2p_i, c2p_r, c2p_z, okvp_i, okvp_l, okvp_r, okvp_n, okvp_z, okvp_z0, okvp_z1, bi_narp, am_nar0p, am_nar1p, bi_0, bi_1, true_and, and_true, fld_set_ne, j_set_ne, q_set_ne, lv_set_ne, nv_set_ne, is_set_ne, j_set_eq, lv_set_eq, q_set_eq, nv_set_i, nv_set_l, nv_set_q, fld_put_ne, fld_put_k, fld_put_same, Option.map_some, j_put, q_put, lv_put, nv_put, is_put, put_1, set_1, i_40_0 h, i_40_1 h, i_40_2 h, i_40_3 h, r_40_4 h, r_40_5 h, r_40_6 h, i_40_7 h, r_40_8 h, r_40_9 h, r_40_10 h, r_40_11 h, r_40_12 h, i_40_13 h, r_40_14 h, r_40_15 h, r_40_16 h, r_40_17 h, i_40_18 h, i_40_19 h, r_40_20 h, r_40_21 h, r_40_22 h, i_40_23 h, r_40_24 h, r_40_25 h, r_40_26 h, r_40_27 h, r_40_28 h, i_40_29 h, r_40_30 h, r_40_31 h, r_40_32 h, r_40_33 h, r_40_34 h, r_40_35 h, r_40_36 h, r_40_37 h, i_40_38 h, i_40_39 h, i_40_40 h, i_40_41 h, i_40_42 h, i_40_43 h, i_40_44 h, i_40_45 h, r_40_46 h, r_40_47 h, r_40_48 h, r_40_49 h, r_40_50 h, r_40_51 h, r_40_52 h, r_40_53 h, r_40_54 h, r_40_55 h, r_40_56 h, r_40_57 h, r_40_58 h, i_40_59 h, i_40_60 h, r_40_61 h, o_40 h, j_49 h, n_49 h, j_50 h, n_50 h, j_51 h, n_51 h, j_52 h, n_52 h, hn, M_isWord 40 _ _ (i_40_1 h), M_isPicture 40 _ _ (i_40_7 h), hj, hbb, e200, nI_eqc (show n < 2 ^ 31 by omega) (show 200 < 2 ^ 31 by decide), h3, hix, hcl, nI_1, bi_01, not_false_eq_true, mCap]
    by_cases h1 : inB p 0 (gi σ 40 11 7 - 1) = true <;> by_cases h2 : inB w 0 (gi σ 40 11 1 - 1) = true <;> by_cases h4 : mHas σ n p w (gi σ 40 11 0) false = b <;> simp [h1, h2, h4]
end M4
