/-! THE REFERENCE, 2: words -/
def mKeep (σ : am_H) (p : Nat) (w i : Int32) : am_H := am_put (am_set (am_set (am_set σ 41 (am_ia 0 140 (upd (ga σ 41) p w))) 42 (am_ia 0 140 (upd (ga σ 42) p i))) 43 (am_ia 0 140 (upd (ga σ 43) p (gi σ 40 11 0)))) 40 2 (.int (nI (p + 1)))
def liesF (pw pi pa : Nat → Int32) (w m : Int32) : Nat → Int32
  | 0 => -1
  | n + 1 => if pw n = w then (if m < pa n then liesF pw pi pa w m n else pi n) else liesF pw pi pa w m n
/-- up from x by L, till top or none: at most n steps -/
def upF (L : Int32 → Int32) (top : Int32) : Nat → Int32 → Option Bool
  | 0, _ => none
  | n + 1, x => if x < 0 then some (decide (x = top)) else if x = top then some true else upF L top n (L x)
def mLies (σ : am_H) (p : Nat) (m w : Int32) : Int32 := liesF (ga σ 41) (ga σ 42) (ga σ 43) w m p
section M2
variable {σ : am_H} {Q : Option Value → am_H → Prop} {p : Nat}
theorem M_keepPut (h : SH σ) (hp : gi σ 40 11 2 = nI p) (hlt : p < 140) (w i : Int32) : ax k_M_keepPut 0 [some (.ref 40), some (.int w), some (.int i)] [] σ Q = Q none (mKeep σ p w i) := by
  have hix := ix_nI hlt (by omega)
  have hcl : (nI p).toNatClampNeg = p := nI_clamp (by omega)
  simp only [s_M_keepPut_0, s_M_keepPut_1, s_M_keepPut_4, s_M_keepPut_5, s_M_keepPut_8, s_M_keepPut_9, s_M_keepPut_10, s_M_keepPut_11, s_M_keepPut_14, s_M_keepPut_15, s_M_keepPut_18, s_M_keepPut_19, s_M_keepPut_20, s_M_keepPut_21, s_M_keepPut_24, s_M_keepPut_25, s_M_keepPut_28, s_M_keepPut_29, s_M_keepPut_32, s_M_keepPut_33, s_M_keepPut_34, s_M_keepPut_35, s_M_keepPut_38, s_M_keepPut_39, s_M_keepPut_40, s_M_keepPut_43, ↓reduceIte, Nat.reduceEqDiff, Nat.reduceLT, am_top, ax_f_some, ax_k_some, ax_k_none, s8_0, s8_1, s8_2, s8_3, s8_4, c2p_n, c2p_i, c2p_r, c2p_z, okvp_i, okvp_l, okvp_r, okvp_n, okvp_z, okvp_z0, okvp_z1, bi_narp, am_nar0p, am_nar1p, bi_0, bi_1, true_and, and_true, fld_set_ne, j_set_ne, q_set_ne, lv_set_ne, nv_set_ne, is_set_ne, j_set_eq, lv_set_eq, q_set_eq, nv_set_i, nv_set_l, nv_set_q, fld_put_ne, fld_put_k, fld_put_same, Option.map_some, j_put, q_put, lv_put, nv_put, is_put, put_1, set_1, i_40_0 h, i_40_1 h, i_40_2 h, i_40_3 h, r_40_4 h, r_40_5 h, r_40_6 h, i_40_7 h, r_40_8 h, r_40_9 h, r_40_10 h, r_40_11 h, r_40_12 h, i_40_13 h, r_40_14 h, r_40_15 h, r_40_16 h, r_40_17 h, i_40_18 h, i_40_19 h, r_40_20 h, r_40_21 h, r_40_22 h, i_40_23 h, r_40_24 h, r_40_25 h, r_40_26 h, r_40_27 h, r_40_28 h, i_40_29 h, r_40_30 h, r_40_31 h, r_40_32 h, r_40_33 h, r_40_34 h, r_40_35 h, r_40_36 h, r_40_37 h, i_40_38 h, i_40_39 h, i_40_40 h, i_40_41 h, i_40_42 h, i_40_43 h, i_40_44 h, i_40_45 h, r_40_46 h, r_40_47 h, r_40_48 h, r_40_49 h, r_40_50 h, r_40_51 h, r_40_52 h, r_40_53 h, r_40_54 h, r_40_55 h, r_40_56 h, r_40_57 h, r_40_58 h, i_40_59 h, i_40_60 h, r_40_61 h, o_40 h, j_41 h, n_41 h, j_42 h, n_42 h, j_43 h, n_43 h, hp, hix, hcl, nI_1, not_false_eq_true, mKeep]
theorem M_liesIn_loop (h : SH σ) (hp : gi σ 40 11 2 = nI p) (hlt : p ≤ 140) (w m : Int32) : ∀ j k, k + j = p → ax k_M_liesIn 5 [some (.ref 40), some (.int w), some (.int m), some (.int (mLies σ k m w)), some (.int (nI k))] [] σ Q = Q (some (.int (mLies σ p m w))) σ := by
  intro j
  induction j with
  | zero =>
    intro k hk
    have hk : k = p := by omega
    subst hk
    have hc : ¬ nI k < nI k := Int32.lt_irrefl
    rw [s_M_liesIn_5]
    simp only [s_M_liesIn_0, s_M_liesIn_1, s_M_liesIn_2, s_M_liesIn_3, s_M_liesIn_7, s_M_liesIn_8, s_M_liesIn_11, s_M_liesIn_14, s_M_liesIn_15, s_M_liesIn_18, s_M_liesIn_20, s_M_liesIn_21, s_M_liesIn_22, s_M_liesIn_25, s_M_liesIn_26, s_M_liesIn_29, s_M_liesIn_31, s_M_liesIn_32, s_M_liesIn_33, s_M_liesIn_36, s_M_liesIn_37, s_M_liesIn_40, s_M_liesIn_42, s_M_liesIn_43, s_M_liesIn_44, s_M_liesIn_47, s_M_liesIn_50, s_M_liesIn_51, ↓reduceIte, Nat.reduceEqDiff, Nat.reduceLT, am_top, ax_f_some, ax_k_some, ax_k_none, s8_0, s8_1, s8_2, s8_3, s8_4, c2p_n, c2p_i, c2p_r, c2p_z, okvp_i, okvp_l, okvp_r, okvp_n, okvp_z, okvp_z0, okvp_z1, bi_narp, am_nar0p, am_nar1p, bi_0, bi_1, true_and, and_true, i_40_0 h, i_40_1 h, i_40_2 h, i_40_3 h, r_40_4 h, r_40_5 h, r_40_6 h, i_40_7 h, r_40_8 h, r_40_9 h, r_40_10 h, r_40_11 h, r_40_12 h, i_40_13 h, r_40_14 h, r_40_15 h, r_40_16 h, r_40_17 h, i_40_18 h, i_40_19 h, r_40_20 h, r_40_21 h, r_40_22 h, i_40_23 h, r_40_24 h, r_40_25 h, r_40_26 h, r_40_27 h, r_40_28 h, i_40_29 h, r_40_30 h, r_40_31 h, r_40_32 h, r_40_33 h, r_40_34 h, r_40_35 h, r_40_36 h, r_40_37 h, i_40_38 h, i_40_39 h, i_40_40 h, i_40_41 h, i_40_42 h, i_40_43 h, i_40_44 h, i_40_45 h, r_40_46 h, r_40_47 h, r_40_48 h, r_40_49 h, r_40_50 h, r_40_51 h, r_40_52 h, r_40_53 h, r_40_54 h, r_40_55 h, r_40_56 h, r_40_57 h, r_40_58 h, i_40_59 h, i_40_60 h, r_40_61 h, o_40 h, hp, hc]
  | succ j ih =>
    intro k hk
    have ih := ih (k + 1) (by omega)
    have hc : nI k < nI p := nI_lt (by omega) (by omega)
    have hix := ix_nI (show k < 140 by omega) (by omega)
    have hcl : (nI k).toNatClampNeg = k := nI_clamp (by omega)
    rw [s_M_liesIn_5]
    simp only [s_M_liesIn_0, s_M_liesIn_1, s_M_liesIn_2, s_M_liesIn_3, s_M_liesIn_7, s_M_liesIn_8, s_M_liesIn_11, s_M_liesIn_14, s_M_liesIn_15, s_M_liesIn_18, s_M_liesIn_20, s_M_liesIn_21, s_M_liesIn_22, s_M_liesIn_25, s_M_liesIn_26, s_M_liesIn_29, s_M_liesIn_31, s_M_liesIn_32, s_M_liesIn_33, s_M_liesIn_36, s_M_liesIn_37, s_M_liesIn_40, s_M_liesIn_42, s_M_liesIn_43, s_M_liesIn_44, s_M_liesIn_47, s_M_liesIn_50, s_M_liesIn_51, ↓reduceIte, Nat.reduceEqDiff, Nat.reduceLT, am_top, ax_f_some, ax_k_some, ax_k_none, s8_0, s8_1, s8_2, s8_3, s8_4, c2p_n, c2p_i, c2p_r, c2p_z, okvp_i, okvp_l, okvp_r, okvp_n, okvp_z, okvp_z0, okvp_z1, bi_narp, am_nar0p, am_nar1p, bi_0, bi_1, true_and, and_true, i_40_0 h, i_40_1 h, i_40_2 h, i_40_3 h, r_40_4 h, r_40_5 h, r_40_6 h, i_40_7 h, r_40_8 h, r_40_9 h, r_40_10 h, r_40_11 h, r_40_12 h, i_40_13 h, r_40_14 h, r_40_15 h, r_40_16 h, r_40_17 h, i_40_18 h, i_40_19 h, r_40_20 h, r_40_21 h, r_40_22 h, i_40_23 h, r_40_24 h, r_40_25 h, r_40_26 h, r_40_27 h, r_40_28 h, i_40_29 h, r_40_30 h, r_40_31 h, r_40_32 h, r_40_33 h, r_40_34 h, r_40_35 h, r_40_36 h, r_40_37 h, i_40_38 h, i_40_39 h, i_40_40 h, i_40_41 h, i_40_42 h, i_40_43 h, i_40_44 h, i_40_45 h, r_40_46 h, r_40_47 h, r_40_48 h, r_40_49 h, r_40_50 h, r_40_51 h, r_40_52 h, r_40_53 h, r_40_54 h, r_40_55 h, r_40_56 h, r_40_57 h, r_40_58 h, i_40_59 h, i_40_60 h, r_40_61 h, o_40 h, j_41 h, n_41 h, j_42 h, n_42 h, j_43 h, n_43 h, hp, hc, hix, hcl, nI_1]
    rw [← ih]
    by_cases h1 : ga σ 41 k = w
    · by_cases h2 : m < ga σ 43 k
      · simp only [h1, h2, mLies, liesF, ↓reduceIte]
      · simp only [h1, h2, mLies, liesF, ↓reduceIte]
    · simp only [h1, mLies, liesF, ↓reduceIte]
theorem M_liesIn (h : SH σ) (hp : gi σ 40 11 2 = nI p) (hlt : p ≤ 140) (w m : Int32) : ax k_M_liesIn 0 [some (.ref 40), some (.int w), some (.int m), none, none] [] σ Q = Q (some (.int (mLies σ p m w))) σ := by
  rw [← M_liesIn_loop (Q := Q) h hp hlt w m p 0 (by omega)]
  simp only [s_M_liesIn_0, s_M_liesIn_1, s_M_liesIn_2, s_M_liesIn_3, s_M_liesIn_7, s_M_liesIn_8, s_M_liesIn_11, s_M_liesIn_14, s_M_liesIn_15, s_M_liesIn_18, s_M_liesIn_20, s_M_liesIn_21, s_M_liesIn_22, s_M_liesIn_25, s_M_liesIn_26, s_M_liesIn_29, s_M_liesIn_31, s_M_liesIn_32, s_M_liesIn_33, s_M_liesIn_36, s_M_liesIn_37, s_M_liesIn_40, s_M_liesIn_42, s_M_liesIn_43, s_M_liesIn_44, s_M_liesIn_47, s_M_liesIn_50, s_M_liesIn_51, ↓reduceIte, Nat.reduceEqDiff, Nat.reduceLT, am_top, ax_f_some, ax_k_some, ax_k_none, s8_0, s8_1, s8_2, s8_3, s8_4, c2p_n, c2p_i, c2p_r, c2p_z, okvp_i, okvp_l, okvp_r, okvp_n, okvp_z, okvp_z0, okvp_z1, bi_narp, am_nar0p, am_nar1p, bi_0, bi_1, true_and, and_true, mLies, liesF, nI_0]
theorem M_isOf_loop (h : SH σ) (hp : gi σ 40 11 2 = nI p) (hlt : p ≤ 140) (w top m : Int32) : ∀ n x b, upF (mLies σ p m) top n x = some b → ax k_M_isOf 3 [some (.ref 40), some (.int w), some (.int top), some (.int m), some (.int x)] [] σ Q = Q (some (.int (bi b))) σ := by
  intro n
  induction n with
  | zero => intro x b hb; cases hb
  | succ n ih =>
    intro x b hb
    rw [s_M_isOf_3]
    simp only [s_M_isOf_0, s_M_isOf_1, s_M_isOf_5, s_M_isOf_8, s_M_isOf_10, s_M_isOf_11, s_M_isOf_14, s_M_isOf_15, s_M_isOf_17, s_M_isOf_18, s_M_isOf_21, s_M_isOf_23, s_M_isOf_26, s_M_isOf_28, s_M_isOf_29, s_M_isOf_32, s_M_isOf_33, s_M_isOf_36, s_M_isOf_37, ↓reduceIte, Nat.reduceEqDiff, Nat.reduceLT, am_top, ax_f_some, ax_k_some, ax_k_none, s8_0, s8_1, s8_2, s8_3, s8_4, c2p_n, c2p_i, c2p_r, c2p_z, okvp_i, okvp_l, okvp_r, okvp_n, okvp_z, okvp_z0, okvp_z1, bi_narp, am_nar0p, am_nar1p, bi_0, bi_1, true_and, and_true, i_40_0 h, i_40_1 h, i_40_2 h, i_40_3 h, r_40_4 h, r_40_5 h, r_40_6 h, i_40_7 h, r_40_8 h, r_40_9 h, r_40_10 h, r_40_11 h, r_40_12 h, i_40_13 h, r_40_14 h, r_40_15 h, r_40_16 h, r_40_17 h, i_40_18 h, i_40_19 h, r_40_20 h, r_40_21 h, r_40_22 h, i_40_23 h, r_40_24 h, r_40_25 h, r_40_26 h, r_40_27 h, r_40_28 h, i_40_29 h, r_40_30 h, r_40_31 h, r_40_32 h, r_40_33 h, r_40_34 h, r_40_35 h, r_40_36 h, r_40_37 h, i_40_38 h, i_40_39 h, i_40_40 h, i_40_41 h, i_40_42 h, i_40_43 h, i_40_44 h, i_40_45 h, r_40_46 h, r_40_47 h, r_40_48 h, r_40_49 h, r_40_50 h, r_40_51 h, r_40_52 h, r_40_53 h, r_40_54 h, r_40_55 h, r_40_56 h, r_40_57 h, r_40_58 h, i_40_59 h, i_40_60 h, r_40_61 h, o_40 h, M_liesIn h hp hlt]
    simp only [upF] at hb
    by_cases h1 : x < 0
    · simp only [h1, ↓reduceIte] at hb ⊢
      cases hb
      by_cases h2 : x = top <;> simp [h2, bi]
    · simp only [h1, ↓reduceIte] at hb ⊢
      by_cases h2 : x = top
      · simp only [h2, ↓reduceIte] at hb ⊢
        cases hb
        rfl
      · simp only [h2, ↓reduceIte] at hb ⊢
        exact ih _ _ hb
theorem M_isOf (h : SH σ) (hp : gi σ 40 11 2 = nI p) (hlt : p ≤ 140) (w top m : Int32) {n : Nat} {b : Bool} (hb : upF (mLies σ p m) top n w = some b) : ax k_M_isOf 0 [some (.ref 40), some (.int w), some (.int top), some (.int m), none] [] σ Q = Q (some (.int (bi b))) σ := by
  rw [← M_isOf_loop (Q := Q) h hp hlt w top m n w b hb]
  simp only [s_M_isOf_0, s_M_isOf_1, s_M_isOf_5, s_M_isOf_8, s_M_isOf_10, s_M_isOf_11, s_M_isOf_14, s_M_isOf_15, s_M_isOf_17, s_M_isOf_18, s_M_isOf_21, s_M_isOf_23, s_M_isOf_26, s_M_isOf_28, s_M_isOf_29, s_M_isOf_32, s_M_isOf_33, s_M_isOf_36, s_M_isOf_37, ↓reduceIte, Nat.reduceEqDiff, Nat.reduceLT, am_top, ax_f_some, ax_k_some, ax_k_none, s8_0, s8_1, s8_2, s8_3, s8_4, c2p_n, c2p_i, c2p_r, c2p_z, okvp_i, okvp_l, okvp_r, okvp_n, okvp_z, okvp_z0, okvp_z1, bi_narp, am_nar0p, am_nar1p, bi_0, bi_1, true_and, and_true]
end M2
