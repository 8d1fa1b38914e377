/-! THE REFERENCE, 6: the tape; uses; sales' reads -/
section HN
variable {σ : am_H} {a b k : Nat} {c c' : am_C} {v v' : Value}
theorem set_set : am_set (am_set σ a c) a c' = am_set σ a c' := by
  unfold am_set
  refine Prod.ext rfl (Prod.ext rfl ?_)
  funext x
  by_cases h : x = a <;> simp [h]
theorem put_set (h : ¬ b = a) : am_put (am_set σ a c) b k v = am_set (am_put σ b k v) a c := by
  unfold am_put
  rw [get_set_ne h]
  cases am_get σ b with
  | none => rfl
  | some x =>
    cases x with
    | inr o => rfl
    | inl o =>
      unfold am_set
      refine Prod.ext rfl (Prod.ext rfl ?_)
      funext x
      by_cases h1 : x = a
      · subst h1
        simp [Ne.symm h]
      · by_cases h2 : x = b
        · subst h2
          simp [h]
        · simp [h1, h2]
theorem put_put : am_put (am_put σ a k v) a k v' = am_put σ a k v' := by
  cases hg : am_get σ a with
  | none =>
    have e : ∀ w, am_put σ a k w = σ := fun w => by unfold am_put; rw [hg]
    rw [e, e]
  | some x =>
    cases x with
    | inr o =>
      have e : ∀ w, am_put σ a k w = σ := fun w => by unfold am_put; rw [hg]
      rw [e, e]
    | inl o =>
      have e : ∀ w, am_put σ a k w = am_set σ a (.inl (o.1, o.2.set k w)) := fun w => by unfold am_put; rw [hg]
      rw [e, e]
      unfold am_put
      rw [get_set_eq]
      show am_set (am_set σ a _) a _ = _
      rw [set_set]
      simp [List.set_set]
end HN
/-- a byte of an int -/
def byt (v k : Int32) : Int32 := (v >>> (k &&& 31)) &&& 255
def upd4 (f : Nat → Int32) (t : Nat) (v : Int32) : Nat → Int32 := upd (upd (upd (upd f t (byt v 24)) (t + 1) (byt v 16)) (t + 2) (byt v 8)) (t + 3) (byt v 0)
def mFour (σ : am_H) (t : Nat) (v : Int32) : am_H := am_set (am_put σ 40 29 (.int (nI (t + 4)))) 60 (am_ia 0 120 (upd4 (ga σ 60) t v))
section M6
variable {σ : am_H} {Q : Option Value → am_H → Prop}
theorem M_four (h : SH σ) {t : Nat} (ht : gi σ 40 11 29 = nI t) (hle : t + 4 ≤ 120) (v : Int32) : ax k_M_four 0 [some (.ref 40), some (.int v), none] [] σ Q = Q none (mFour σ t v) := by
  have x0 := ix_nI (show t < 120 by omega) (by omega)
  have x1 := ix_nI (show t + 1 < 120 by omega) (by omega)
  have x2 := ix_nI (show t + 1 + 1 < 120 by omega) (by omega)
  have x3 := ix_nI (show t + 1 + 1 + 1 < 120 by omega) (by omega)
  have c0 : (nI t).toNatClampNeg = t := nI_clamp (by omega)
  have c1 : (nI (t + 1)).toNatClampNeg = t + 1 := nI_clamp (by omega)
  have c2 : (nI (t + 1 + 1)).toNatClampNeg = t + 1 + 1 := nI_clamp (by omega)
  have c3 : (nI (t + 1 + 1 + 1)).toNatClampNeg = t + 1 + 1 + 1 := nI_clamp (by omega)
  have l0 : ((24 : Int32) < 0) = False := eq_false (by decide)
  have l1 : ((16 : Int32) < 0) = False := eq_false (by decide)
  have l2 : ((8 : Int32) < 0) = False := eq_false (by decide)
  have l3 : ((0 : Int32) < 0) = False := eq_false (by decide)
  have l4 : ((-8 : Int32) < 0) = True := eq_true (by decide)
  have a0 : (24 : Int32) + (-8) = 16 := by decide
  have a1 : (16 : Int32) + (-8) = 8 := by decide
  have a2 : (8 : Int32) + (-8) = 0 := by decide
  have a3 : (0 : Int32) + (-8) = -8 := by decide
  simp only [s_M_four_0, s_M_four_2, s_M_four_3, s_M_four_4, s_M_four_7, s_M_four_8, s_M_four_11, s_M_four_12, s_M_four_15, s_M_four_16, s_M_four_17, s_M_four_18, s_M_four_21, s_M_four_22, s_M_four_23, s_M_four_24, s_M_four_25, s_M_four_28, s_M_four_29, s_M_four_30, s_M_four_33, s_M_four_36, s_M_four_39, ↓reduceIte, Nat.reduceEqDiff, Nat.reduceLT, am_top, ax_f_some, ax_k_some, ax_k_none, s8_0, s8_1, s8_2, s8_3, s8_4, c2p_n, c2p_i, c2p_r, c2p_z, okvp_i, okvp_l, okvp_r, okvp_n, okvp_z, okvp_z0, okvp_z1, bi_narp, am_nar0p, am_nar1p, bi_0, bi_1, true_and, and_true, fld_set_ne, j_set_ne, q_set_ne, lv_set_ne, nv_set_ne, is_set_ne, j_set_eq, lv_set_eq, q_set_eq, nv_set_i, nv_set_l, nv_set_q, fld_put_ne, fld_put_k, fld_put_same, Option.map_some, j_put, q_put, lv_put, nv_put, is_put, put_1, set_1, i_40_0 h, i_40_1 h, i_40_2 h, i_40_3 h, r_40_4 h, r_40_5 h, r_40_6 h, i_40_7 h, r_40_8 h, r_40_9 h, r_40_10 h, r_40_11 h, r_40_12 h, i_40_13 h, r_40_14 h, r_40_15 h, r_40_16 h, r_40_17 h, i_40_18 h, i_40_19 h, r_40_20 h, r_40_21 h, r_40_22 h, i_40_23 h, r_40_24 h, r_40_25 h, r_40_26 h, r_40_27 h, r_40_28 h, i_40_29 h, r_40_30 h, r_40_31 h, r_40_32 h, r_40_33 h, r_40_34 h, r_40_35 h, r_40_36 h, r_40_37 h, i_40_38 h, i_40_39 h, i_40_40 h, i_40_41 h, i_40_42 h, i_40_43 h, i_40_44 h, i_40_45 h, r_40_46 h, r_40_47 h, r_40_48 h, r_40_49 h, r_40_50 h, r_40_51 h, r_40_52 h, r_40_53 h, r_40_54 h, r_40_55 h, r_40_56 h, r_40_57 h, r_40_58 h, i_40_59 h, i_40_60 h, r_40_61 h, o_40 h, j_60 h, n_60 h, ht, x0, x1, x2, x3, c0, c1, c2, c3, l0, l1, l2, l3, l4, a0, a1, a2, a3, nI_1, not_false_eq_true, put_set, set_set, put_put, mFour, upd4, byt]
def mFeed (σ : am_H) (t : Nat) (a b c d e : Int32) : am_H := mFour (mFour (mFour (mFour (mFour σ t a) (t + 4) b) (t + 8) c) (t + 12) d) (t + 16) e
theorem SH_four (h : SH σ) (t : Nat) (v : Int32) : SH (mFour σ t v) := by
  unfold mFour
  exact SH_set_j (SH_put_i (ci := 11) h (by decide) (by decide)) (by decide) (by decide) (by decide) (by decide) (by decide)
theorem four_29 (h : SH σ) (t : Nat) (v : Int32) : gi (mFour σ t v) 40 11 29 = nI (t + 4) := by
  unfold mFour
  rw [gi_set_ne (by decide)]
  exact gi_put_eq (i_40_29 h)
theorem M_feed (h : SH σ) {t : Nat} (ht : gi σ 40 11 29 = nI t) (hle : t ≤ 120) (a b c d e : Int32) : ax k_M_feed 0 [some (.ref 40), some (.int a), some (.int b), some (.int c), some (.int d), some (.int e)] [] σ Q = (if t + 20 ≤ 120 then Q (some (.int (nI (t + 20)))) (mFeed σ t a b c d e) else Q (some (.int (-1))) σ) := by
  by_cases hc : t + 20 ≤ 120
  · have hc2 : ¬ nI 120 < nI (t + 20) := nI_nlt (by omega) (by omega)
    have s1 := SH_four h t a
    have g1 := four_29 h t a
    have s2 := SH_four s1 (t + 4) b
    have g2 := four_29 s1 (t + 4) b
    have s3 := SH_four s2 (t + 8) c
    have g3 := four_29 s2 (t + 8) c
    have s4 := SH_four s3 (t + 12) d
    have g4 := four_29 s3 (t + 12) d
    have s5 := SH_four s4 (t + 16) e
    have g5 := four_29 s4 (t + 16) e
    simp only [s_M_feed_0, s_M_feed_1, s_M_feed_4, s_M_feed_6, s_M_feed_7, s_M_feed_9, s_M_feed_12, s_M_feed_13, s_M_feed_14, s_M_feed_15, s_M_feed_16, s_M_feed_19, s_M_feed_20, s_M_feed_21, s_M_feed_24, s_M_feed_25, s_M_feed_26, s_M_feed_29, s_M_feed_30, s_M_feed_32, s_M_feed_35, s_M_feed_36, s_M_feed_38, s_M_feed_41, s_M_feed_42, s_M_feed_45, ↓reduceIte, Nat.reduceEqDiff, Nat.reduceLT, am_top, ax_f_some, ax_k_some, ax_k_none, s8_0, s8_1, s8_2, s8_3, s8_4, c2p_n, c2p_i, c2p_r, c2p_z, okvp_i, okvp_l, okvp_r, okvp_n, okvp_z, okvp_z0, okvp_z1, bi_narp, am_nar0p, am_nar1p, bi_0, bi_1, true_and, and_true, i_40_0 h, i_40_1 h, i_40_2 h, i_40_3 h, r_40_4 h, r_40_5 h, r_40_6 h, i_40_7 h, r_40_8 h, r_40_9 h, r_40_10 h, r_40_11 h, r_40_12 h, i_40_13 h, r_40_14 h, r_40_15 h, r_40_16 h, r_40_17 h, i_40_18 h, i_40_19 h, r_40_20 h, r_40_21 h, r_40_22 h, i_40_23 h, r_40_24 h, r_40_25 h, r_40_26 h, r_40_27 h, r_40_28 h, i_40_29 h, r_40_30 h, r_40_31 h, r_40_32 h, r_40_33 h, r_40_34 h, r_40_35 h, r_40_36 h, r_40_37 h, i_40_38 h, i_40_39 h, i_40_40 h, i_40_41 h, i_40_42 h, i_40_43 h, i_40_44 h, i_40_45 h, r_40_46 h, r_40_47 h, r_40_48 h, r_40_49 h, r_40_50 h, r_40_51 h, r_40_52 h, r_40_53 h, r_40_54 h, r_40_55 h, r_40_56 h, r_40_57 h, r_40_58 h, i_40_59 h, i_40_60 h, r_40_61 h, o_40 h, e120, e20, ht, nI_add, hc2, hc, M_four h ht (show t + 4 ≤ 120 by omega), M_four s1 g1 (show t + 4 + 4 ≤ 120 by omega), M_four s2 g2 (show t + 8 + 4 ≤ 120 by omega), M_four s3 g3 (show t + 12 + 4 ≤ 120 by omega), M_four s4 g4 (show t + 16 + 4 ≤ 120 by omega), o_40 s1, o_40 s2, o_40 s3, o_40 s4, o_40 s5, i_40_29 s5, g5, mFeed]
  · have hc2 : nI 120 < nI (t + 20) := nI_lt (by omega) (by omega)
    simp only [s_M_feed_0, s_M_feed_1, s_M_feed_4, s_M_feed_6, s_M_feed_7, s_M_feed_9, s_M_feed_12, s_M_feed_13, s_M_feed_14, s_M_feed_15, s_M_feed_16, s_M_feed_19, s_M_feed_20, s_M_feed_21, s_M_feed_24, s_M_feed_25, s_M_feed_26, s_M_feed_29, s_M_feed_30, s_M_feed_32, s_M_feed_35, s_M_feed_36, s_M_feed_38, s_M_feed_41, s_M_feed_42, s_M_feed_45, ↓reduceIte, Nat.reduceEqDiff, Nat.reduceLT, am_top, ax_f_some, ax_k_some, ax_k_none, s8_0, s8_1, s8_2, s8_3, s8_4, c2p_n, c2p_i, c2p_r, c2p_z, okvp_i, okvp_l, okvp_r, okvp_n, okvp_z, okvp_z0, okvp_z1, bi_narp, am_nar0p, am_nar1p, bi_0, bi_1, true_and, and_true, i_40_0 h, i_40_1 h, i_40_2 h, i_40_3 h, r_40_4 h, r_40_5 h, r_40_6 h, i_40_7 h, r_40_8 h, r_40_9 h, r_40_10 h, r_40_11 h, r_40_12 h, i_40_13 h, r_40_14 h, r_40_15 h, r_40_16 h, r_40_17 h, i_40_18 h, i_40_19 h, r_40_20 h, r_40_21 h, r_40_22 h, i_40_23 h, r_40_24 h, r_40_25 h, r_40_26 h, r_40_27 h, r_40_28 h, i_40_29 h, r_40_30 h, r_40_31 h, r_40_32 h, r_40_33 h, r_40_34 h, r_40_35 h, r_40_36 h, r_40_37 h, i_40_38 h, i_40_39 h, i_40_40 h, i_40_41 h, i_40_42 h, i_40_43 h, i_40_44 h, i_40_45 h, r_40_46 h, r_40_47 h, r_40_48 h, r_40_49 h, r_40_50 h, r_40_51 h, r_40_52 h, r_40_53 h, r_40_54 h, r_40_55 h, r_40_56 h, r_40_57 h, r_40_58 h, i_40_59 h, i_40_60 h, r_40_61 h, o_40 h, e120, e20, ht, nI_add, hc2, hc]
theorem M_isUse (h : SH σ) (p l u z : Int32) : ax k_M_isUse 0 [some (.ref 40), some (.int p), some (.int l), some (.int u), some (.int z)] [] σ Q = Q (some (.int (bi (((inB p 0 (gi σ 40 11 7 - 1) && inB l 0 9) && inB u 0 4) && inB z 1 1000)))) σ := by
  simp only [s_M_isUse_0, s_M_isUse_1, s_M_isUse_2, s_M_isUse_5, s_M_isUse_8, s_M_isUse_9, s_M_isUse_10, s_M_isUse_12, s_M_isUse_15, s_M_isUse_18, s_M_isUse_19, s_M_isUse_20, s_M_isUse_21, s_M_isUse_24, s_M_isUse_27, s_M_isUse_29, s_M_isUse_30, s_M_isUse_33, s_M_isUse_36, s_M_isUse_39, s_M_isUse_40, s_M_isUse_43, s_M_isUse_44, ↓reduceIte, Nat.reduceEqDiff, Nat.reduceLT, am_top, ax_f_some, ax_k_some, ax_k_none, s8_0, s8_1, s8_2, s8_3, s8_4, c2p_n, c2p_i, c2p_r, c2p_z, okvp_i, okvp_l, okvp_r, okvp_n, okvp_z, okvp_z0, okvp_z1, bi_narp, am_nar0p, am_nar1p, bi_0, bi_1, true_and, and_true, i_40_0 h, i_40_1 h, i_40_2 h, i_40_3 h, r_40_4 h, r_40_5 h, r_40_6 h, i_40_7 h, r_40_8 h, r_40_9 h, r_40_10 h, r_40_11 h, r_40_12 h, i_40_13 h, r_40_14 h, r_40_15 h, r_40_16 h, r_40_17 h, i_40_18 h, i_40_19 h, r_40_20 h, r_40_21 h, r_40_22 h, i_40_23 h, r_40_24 h, r_40_25 h, r_40_26 h, r_40_27 h, r_40_28 h, i_40_29 h, r_40_30 h, r_40_31 h, r_40_32 h, r_40_33 h, r_40_34 h, r_40_35 h, r_40_36 h, r_40_37 h, i_40_38 h, i_40_39 h, i_40_40 h, i_40_41 h, i_40_42 h, i_40_43 h, i_40_44 h, i_40_45 h, r_40_46 h, r_40_47 h, r_40_48 h, r_40_49 h, r_40_50 h, r_40_51 h, r_40_52 h, r_40_53 h, r_40_54 h, r_40_55 h, r_40_56 h, r_40_57 h, r_40_58 h, i_40_59 h, i_40_60 h, r_40_61 h, o_40 h, M_isIn, M_isPicture 40 _ _ (i_40_7 h)]
  cases inB p 0 (gi σ 40 11 7 - 1) <;> cases inB l 0 9 <;> cases inB u 0 4 <;> cases inB z 1 1000 <;> simp [bi]
theorem M_isBeside (h : SH σ) (w : Int32) : ax k_M_isBeside 0 [some (.ref 40), some (.int w)] [] σ Q = Q (some (.int (bi (decide (w = -1) || inB w 0 (gi σ 40 11 1 - 1))))) σ := by
  simp only [s_M_isBeside_0, s_M_isBeside_1, s_M_isBeside_2, s_M_isBeside_5, s_M_isBeside_6, s_M_isBeside_7, s_M_isBeside_10, s_M_isBeside_13, s_M_isBeside_14, s_M_isBeside_17, s_M_isBeside_18, ↓reduceIte, Nat.reduceEqDiff, Nat.reduceLT, am_top, ax_f_some, ax_k_some, ax_k_none, s8_0, s8_1, s8_2, s8_3, s8_4, c2p_n, c2p_i, c2p_r, c2p_z, okvp_i, okvp_l, okvp_r, okvp_n, okvp_z, okvp_z0, okvp_z1, bi_narp, am_nar0p, am_nar1p, bi_0, bi_1, true_and, and_true, i_40_0 h, i_40_1 h, i_40_2 h, i_40_3 h, r_40_4 h, r_40_5 h, r_40_6 h, i_40_7 h, r_40_8 h, r_40_9 h, r_40_10 h, r_40_11 h, r_40_12 h, i_40_13 h, r_40_14 h, r_40_15 h, r_40_16 h, r_40_17 h, i_40_18 h, i_40_19 h, r_40_20 h, r_40_21 h, r_40_22 h, i_40_23 h, r_40_24 h, r_40_25 h, r_40_26 h, r_40_27 h, r_40_28 h, i_40_29 h, r_40_30 h, r_40_31 h, r_40_32 h, r_40_33 h, r_40_34 h, r_40_35 h, r_40_36 h, r_40_37 h, i_40_38 h, i_40_39 h, i_40_40 h, i_40_41 h, i_40_42 h, i_40_43 h, i_40_44 h, i_40_45 h, r_40_46 h, r_40_47 h, r_40_48 h, r_40_49 h, r_40_50 h, r_40_51 h, r_40_52 h, r_40_53 h, r_40_54 h, r_40_55 h, r_40_56 h, r_40_57 h, r_40_58 h, i_40_59 h, i_40_60 h, r_40_61 h, o_40 h, M_isWord 40 _ _ (i_40_1 h)]
  by_cases h1 : w = -1 <;> cases inB w 0 (gi σ 40 11 1 - 1) <;> simp [h1, bi]
theorem M_tells (h : SH σ) {t : Nat} (ht : t < 121) (w : Int32) : ax k_M_tells 0 [some (.ref 40), some (.int (nI t)), some (.int w)] [] σ Q = Q (some (.int (bi (decide ((ga σ 62 t >>> (w &&& 31)) &&& 1 = 1))))) σ := by
  have hix := ix_nI ht (by omega)
  have hcl : (nI t).toNatClampNeg = t := nI_clamp (by omega)
  simp only [s_M_tells_0, s_M_tells_1, s_M_tells_4, s_M_tells_5, s_M_tells_6, s_M_tells_7, s_M_tells_8, s_M_tells_9, s_M_tells_10, s_M_tells_11, s_M_tells_14, s_M_tells_15, s_M_tells_18, s_M_tells_19, ↓reduceIte, Nat.reduceEqDiff, Nat.reduceLT, am_top, ax_f_some, ax_k_some, ax_k_none, s8_0, s8_1, s8_2, s8_3, s8_4, c2p_n, c2p_i, c2p_r, c2p_z, okvp_i, okvp_l, okvp_r, okvp_n, okvp_z, okvp_z0, okvp_z1, bi_narp, am_nar0p, am_nar1p, bi_0, bi_1, true_and, and_true, i_40_0 h, i_40_1 h, i_40_2 h, i_40_3 h, r_40_4 h, r_40_5 h, r_40_6 h, i_40_7 h, r_40_8 h, r_40_9 h, r_40_10 h, r_40_11 h, r_40_12 h, i_40_13 h, r_40_14 h, r_40_15 h, r_40_16 h, r_40_17 h, i_40_18 h, i_40_19 h, r_40_20 h, r_40_21 h, r_40_22 h, i_40_23 h, r_40_24 h, r_40_25 h, r_40_26 h, r_40_27 h, r_40_28 h, i_40_29 h, r_40_30 h, r_40_31 h, r_40_32 h, r_40_33 h, r_40_34 h, r_40_35 h, r_40_36 h, r_40_37 h, i_40_38 h, i_40_39 h, i_40_40 h, i_40_41 h, i_40_42 h, i_40_43 h, i_40_44 h, i_40_45 h, r_40_46 h, r_40_47 h, r_40_48 h, r_40_49 h, r_40_50 h, r_40_51 h, r_40_52 h, r_40_53 h, r_40_54 h, r_40_55 h, r_40_56 h, r_40_57 h, r_40_58 h, i_40_59 h, i_40_60 h, r_40_61 h, o_40 h, j_62 h, n_62 h, hix, hcl]
  by_cases h1 : (ga σ 62 t >>> (w &&& 31)) &&& 1 = 1 <;> simp [h1, bi]
theorem M_see (h : SH σ) {t j : Nat} (ht : gi σ 40 11 29 = nI t) (hle : t ≤ 120) (hj : j < 1000) : ax k_M_see 0 [some (.ref 40), some (.int (nI j))] [] σ Q = Q (some (.int (if j < t then ga σ 60 j else -1))) σ := by
  by_cases h1 : j < t
  · have hix := ix_nI (show j < 120 by omega) (by omega)
    have hcl : (nI j).toNatClampNeg = j := nI_clamp (by omega)
    have hc : nI j < nI t := nI_lt h1 (by omega)
    simp only [s_M_see_0, s_M_see_1, s_M_see_2, s_M_see_5, s_M_see_8, s_M_see_9, s_M_see_12, s_M_see_13, s_M_see_14, s_M_see_17, s_M_see_18, ↓reduceIte, Nat.reduceEqDiff, Nat.reduceLT, am_top, ax_f_some, ax_k_some, ax_k_none, s8_0, s8_1, s8_2, s8_3, s8_4, c2p_n, c2p_i, c2p_r, c2p_z, okvp_i, okvp_l, okvp_r, okvp_n, okvp_z, okvp_z0, okvp_z1, bi_narp, am_nar0p, am_nar1p, bi_0, bi_1, true_and, and_true, i_40_0 h, i_40_1 h, i_40_2 h, i_40_3 h, r_40_4 h, r_40_5 h, r_40_6 h, i_40_7 h, r_40_8 h, r_40_9 h, r_40_10 h, r_40_11 h, r_40_12 h, i_40_13 h, r_40_14 h, r_40_15 h, r_40_16 h, r_40_17 h, i_40_18 h, i_40_19 h, r_40_20 h, r_40_21 h, r_40_22 h, i_40_23 h, r_40_24 h, r_40_25 h, r_40_26 h, r_40_27 h, r_40_28 h, i_40_29 h, r_40_30 h, r_40_31 h, r_40_32 h, r_40_33 h, r_40_34 h, r_40_35 h, r_40_36 h, r_40_37 h, i_40_38 h, i_40_39 h, i_40_40 h, i_40_41 h, i_40_42 h, i_40_43 h, i_40_44 h, i_40_45 h, r_40_46 h, r_40_47 h, r_40_48 h, r_40_49 h, r_40_50 h, r_40_51 h, r_40_52 h, r_40_53 h, r_40_54 h, r_40_55 h, r_40_56 h, r_40_57 h, r_40_58 h, i_40_59 h, i_40_60 h, r_40_61 h, o_40 h, j_60 h, n_60 h, ht, hix, hcl, hc, h1]
  · have hc : ¬ nI j < nI t := nI_nlt (by omega) (by omega)
    simp only [s_M_see_0, s_M_see_1, s_M_see_2, s_M_see_5, s_M_see_8, s_M_see_9, s_M_see_12, s_M_see_13, s_M_see_14, s_M_see_17, s_M_see_18, ↓reduceIte, Nat.reduceEqDiff, Nat.reduceLT, am_top, ax_f_some, ax_k_some, ax_k_none, s8_0, s8_1, s8_2, s8_3, s8_4, c2p_n, c2p_i, c2p_r, c2p_z, okvp_i, okvp_l, okvp_r, okvp_n, okvp_z, okvp_z0, okvp_z1, bi_narp, am_nar0p, am_nar1p, bi_0, bi_1, true_and, and_true, i_40_0 h, i_40_1 h, i_40_2 h, i_40_3 h, r_40_4 h, r_40_5 h, r_40_6 h, i_40_7 h, r_40_8 h, r_40_9 h, r_40_10 h, r_40_11 h, r_40_12 h, i_40_13 h, r_40_14 h, r_40_15 h, r_40_16 h, r_40_17 h, i_40_18 h, i_40_19 h, r_40_20 h, r_40_21 h, r_40_22 h, i_40_23 h, r_40_24 h, r_40_25 h, r_40_26 h, r_40_27 h, r_40_28 h, i_40_29 h, r_40_30 h, r_40_31 h, r_40_32 h, r_40_33 h, r_40_34 h, r_40_35 h, r_40_36 h, r_40_37 h, i_40_38 h, i_40_39 h, i_40_40 h, i_40_41 h, i_40_42 h, i_40_43 h, i_40_44 h, i_40_45 h, r_40_46 h, r_40_47 h, r_40_48 h, r_40_49 h, r_40_50 h, r_40_51 h, r_40_52 h, r_40_53 h, r_40_54 h, r_40_55 h, r_40_56 h, r_40_57 h, r_40_58 h, i_40_59 h, i_40_60 h, r_40_61 h, o_40 h, ht, hc, h1]
def ltr (c : Int32) : Bool := inB c 97 122 || inB c 65 90
def dgt (c : Int32) : Bool := inB c 48 57
theorem M_isLetter (c : Int32) : ax k_M_isLetter 0 [some (.int c)] [] σ Q = Q (some (.int (bi (ltr c)))) σ := by
  simp only [s_M_isLetter_0, s_M_isLetter_1, s_M_isLetter_3, s_M_isLetter_5, s_M_isLetter_8, s_M_isLetter_11, s_M_isLetter_12, s_M_isLetter_14, s_M_isLetter_16, s_M_isLetter_19, s_M_isLetter_22, s_M_isLetter_23, s_M_isLetter_26, s_M_isLetter_27, ↓reduceIte, Nat.reduceEqDiff, Nat.reduceLT, am_top, ax_f_some, ax_k_some, ax_k_none, s8_0, s8_1, s8_2, s8_3, s8_4, c2p_n, c2p_i, c2p_r, c2p_z, okvp_i, okvp_l, okvp_r, okvp_n, okvp_z, okvp_z0, okvp_z1, bi_narp, am_nar0p, am_nar1p, bi_0, bi_1, true_and, and_true, M_isIn, ltr]
  cases inB c 97 122 <;> cases inB c 65 90 <;> simp [bi]
theorem M_isDigit (c : Int32) : ax k_M_isDigit 0 [some (.int c)] [] σ Q = Q (some (.int (bi (dgt c)))) σ := by
  simp only [s_M_isDigit_0, s_M_isDigit_1, s_M_isDigit_3, s_M_isDigit_5, s_M_isDigit_8, ↓reduceIte, Nat.reduceEqDiff, Nat.reduceLT, am_top, ax_f_some, ax_k_some, ax_k_none, s8_0, s8_1, s8_2, s8_3, s8_4, c2p_n, c2p_i, c2p_r, c2p_z, okvp_i, okvp_l, okvp_r, okvp_n, okvp_z, okvp_z0, okvp_z1, bi_narp, am_nar0p, am_nar1p, bi_0, bi_1, true_and, and_true, M_isIn, dgt]
def pak (a b c d : Int32) : Int32 := ((((a <<< ((7 : Int32) &&& 31)) ||| b) <<< ((7 : Int32) &&& 31)) ||| c) <<< ((7 : Int32) &&& 31) ||| d
theorem M_pack (a b c d : Int32) : ax k_M_pack 0 [some (.int a), some (.int b), some (.int c), some (.int d)] [] σ Q = Q (some (.int (pak a b c d))) σ := by
  simp only [s_M_pack_0, s_M_pack_1, s_M_pack_3, s_M_pack_4, s_M_pack_5, s_M_pack_6, s_M_pack_8, s_M_pack_9, s_M_pack_10, s_M_pack_11, s_M_pack_13, s_M_pack_14, s_M_pack_15, s_M_pack_16, ↓reduceIte, Nat.reduceEqDiff, Nat.reduceLT, am_top, ax_f_some, ax_k_some, ax_k_none, s8_0, s8_1, s8_2, s8_3, s8_4, c2p_n, c2p_i, c2p_r, c2p_z, okvp_i, okvp_l, okvp_r, okvp_n, okvp_z, okvp_z0, okvp_z1, bi_narp, am_nar0p, am_nar1p, bi_0, bi_1, true_and, and_true, pak]
def wrdOf (w : Int32) : Int32 := if w = pak 108 97 110 100 then 4 else if w = pak 0 117 115 101 then 5 else if w = pak 100 97 121 115 then 6 else if w = pak 109 111 115 116 then 7 else if w = pak 0 110 111 116 then 8 else 3
theorem M_wordOf (w : Int32) : ax k_M_wordOf 0 [some (.int w)] [] σ Q = Q (some (.int (wrdOf w))) σ := by
  simp only [s_M_wordOf_0, s_M_wordOf_1, s_M_wordOf_3, s_M_wordOf_5, s_M_wordOf_7, s_M_wordOf_9, s_M_wordOf_12, s_M_wordOf_15, s_M_wordOf_16, s_M_wordOf_17, s_M_wordOf_18, s_M_wordOf_19, s_M_wordOf_21, s_M_wordOf_23, s_M_wordOf_25, s_M_wordOf_28, s_M_wordOf_31, s_M_wordOf_32, s_M_wordOf_33, s_M_wordOf_34, s_M_wordOf_36, s_M_wordOf_38, s_M_wordOf_40, s_M_wordOf_42, s_M_wordOf_45, s_M_wordOf_48, s_M_wordOf_50, s_M_wordOf_51, s_M_wordOf_52, s_M_wordOf_54, s_M_wordOf_56, s_M_wordOf_58, s_M_wordOf_60, s_M_wordOf_63, s_M_wordOf_66, s_M_wordOf_68, s_M_wordOf_69, s_M_wordOf_70, s_M_wordOf_71, s_M_wordOf_73, s_M_wordOf_75, s_M_wordOf_77, s_M_wordOf_80, s_M_wordOf_83, s_M_wordOf_85, s_M_wordOf_88, s_M_wordOf_89, ↓reduceIte, Nat.reduceEqDiff, Nat.reduceLT, am_top, ax_f_some, ax_k_some, ax_k_none, s8_0, s8_1, s8_2, s8_3, s8_4, c2p_n, c2p_i, c2p_r, c2p_z, okvp_i, okvp_l, okvp_r, okvp_n, okvp_z, okvp_z0, okvp_z1, bi_narp, am_nar0p, am_nar1p, bi_0, bi_1, true_and, and_true, M_pack, wrdOf]
  by_cases h1 : w = pak 108 97 110 100
  · simp only [if_pos h1]
  · by_cases h2 : w = pak 0 117 115 101
    · simp only [if_neg h1, if_pos h2]
    · by_cases h3 : w = pak 100 97 121 115
      · simp only [if_neg h1, if_neg h2, if_pos h3]
      · by_cases h4 : w = pak 109 111 115 116
        · simp only [if_neg h1, if_neg h2, if_neg h3, if_pos h4]
        · by_cases h5 : w = pak 0 110 111 116
          · simp only [if_neg h1, if_neg h2, if_neg h3, if_neg h4, if_pos h5]
          · simp only [if_neg h1, if_neg h2, if_neg h3, if_neg h4, if_neg h5]
theorem M_rate (h : SH σ) (u v : Int32) : ax k_M_rate 0 [some (.ref 40), some (.int u), some (.int v)] [] σ Q = (if u = -1 ∧ inB v 0 100 = true then Q (some (.int 1)) (am_put σ 40 59 (.int v)) else if inB u 0 4 = true ∧ inB v 0 100000 = true then Q (some (.int 1)) (am_set σ 81 (am_ia 0 5 (upd (ga σ 81) u.toNatClampNeg v))) else Q (some (.int 0)) σ) := by
  have hx : inB u 0 4 = true → am_ix u 5 = True := by
    intro hh
    simp only [inB, Bool.and_eq_true, Bool.not_eq_true', decide_eq_false_iff_not] at hh
    obtain ⟨j, hj, rfl⟩ := nI_of2 (M := 4) (n := 4) (by decide) hh.1 (Int32.not_lt.mp hh.2)
    exact ix_nI (by omega) (by omega)
  simp only [s_M_rate_0, s_M_rate_1, s_M_rate_2, s_M_rate_5, s_M_rate_6, s_M_rate_7, s_M_rate_9, s_M_rate_12, s_M_rate_15, s_M_rate_16, s_M_rate_17, s_M_rate_20, s_M_rate_21, s_M_rate_22, s_M_rate_23, s_M_rate_24, s_M_rate_25, s_M_rate_28, s_M_rate_31, s_M_rate_32, s_M_rate_33, s_M_rate_35, s_M_rate_38, s_M_rate_41, s_M_rate_42, s_M_rate_43, s_M_rate_44, s_M_rate_47, s_M_rate_48, s_M_rate_49, s_M_rate_50, s_M_rate_51, ↓reduceIte, Nat.reduceEqDiff, Nat.reduceLT, am_top, ax_f_some, ax_k_some, ax_k_none, s8_0, s8_1, s8_2, s8_3, s8_4, c2p_n, c2p_i, c2p_r, c2p_z, okvp_i, okvp_l, okvp_r, okvp_n, okvp_z, okvp_z0, okvp_z1, bi_narp, am_nar0p, am_nar1p, bi_0, bi_1, true_and, and_true, i_40_0 h, i_40_1 h, i_40_2 h, i_40_3 h, r_40_4 h, r_40_5 h, r_40_6 h, i_40_7 h, r_40_8 h, r_40_9 h, r_40_10 h, r_40_11 h, r_40_12 h, i_40_13 h, r_40_14 h, r_40_15 h, r_40_16 h, r_40_17 h, i_40_18 h, i_40_19 h, r_40_20 h, r_40_21 h, r_40_22 h, i_40_23 h, r_40_24 h, r_40_25 h, r_40_26 h, r_40_27 h, r_40_28 h, i_40_29 h, r_40_30 h, r_40_31 h, r_40_32 h, r_40_33 h, r_40_34 h, r_40_35 h, r_40_36 h, r_40_37 h, i_40_38 h, i_40_39 h, i_40_40 h, i_40_41 h, i_40_42 h, i_40_43 h, i_40_44 h, i_40_45 h, r_40_46 h, r_40_47 h, r_40_48 h, r_40_49 h, r_40_50 h, r_40_51 h, r_40_52 h, r_40_53 h, r_40_54 h, r_40_55 h, r_40_56 h, r_40_57 h, r_40_58 h, i_40_59 h, i_40_60 h, r_40_61 h, o_40 h, j_81 h, n_81 h, M_isIn]
  by_cases h1 : u = -1
  · subst h1
    have e : inB (-1) 0 4 = false := by decide
    by_cases h2 : inB v 0 100 = true <;> simp [h2, e]
  · by_cases h3 : inB u 0 4 = true
    · have hx := hx h3
      by_cases h4 : inB v 0 100000 = true <;> simp [h1, h3, h4, hx]
    · simp [h1, h3]
theorem M_printed (h : SH σ) {np : Nat} (hp : gi σ 40 11 60 = nI np) (hnp : np ≤ 60) (x : Int32) : ax k_M_printed 0 [some (.ref 40), some (.int x)] [] σ Q = Q (some (.int (if inB x 0 (nI np - 1) = true then ga σ 82 x.toNatClampNeg else -1))) σ := by
  by_cases h1 : inB x 0 (nI np - 1) = true
  · have hx : am_ix x 60 = True := by
      have hh := h1
      simp only [inB, Bool.and_eq_true, Bool.not_eq_true', decide_eq_false_iff_not] at hh
      cases np with
      | zero =>
        exfalso
        rw [nI_neg1] at hh
        exact hh.1 (Int32.lt_of_le_of_lt (Int32.not_lt.mp hh.2) (by decide))
      | succ q =>
        rw [nI_pred] at hh
        obtain ⟨j, hj, rfl⟩ := nI_of hh.1
        have : j ≤ q := Nat.not_lt.mp fun z => hh.2 (nI_lt z hj)
        exact ix_nI (by omega) (by omega)
    simp only [s_M_printed_0, s_M_printed_1, s_M_printed_2, s_M_printed_3, s_M_printed_6, s_M_printed_7, s_M_printed_8, s_M_printed_11, s_M_printed_14, s_M_printed_15, s_M_printed_18, s_M_printed_19, s_M_printed_20, s_M_printed_23, s_M_printed_24, ↓reduceIte, Nat.reduceEqDiff, Nat.reduceLT, am_top, ax_f_some, ax_k_some, ax_k_none, s8_0, s8_1, s8_2, s8_3, s8_4, c2p_n, c2p_i, c2p_r, c2p_z, okvp_i, okvp_l, okvp_r, okvp_n, okvp_z, okvp_z0, okvp_z1, bi_narp, am_nar0p, am_nar1p, bi_0, bi_1, true_and, and_true, i_40_0 h, i_40_1 h, i_40_2 h, i_40_3 h, r_40_4 h, r_40_5 h, r_40_6 h, i_40_7 h, r_40_8 h, r_40_9 h, r_40_10 h, r_40_11 h, r_40_12 h, i_40_13 h, r_40_14 h, r_40_15 h, r_40_16 h, r_40_17 h, i_40_18 h, i_40_19 h, r_40_20 h, r_40_21 h, r_40_22 h, i_40_23 h, r_40_24 h, r_40_25 h, r_40_26 h, r_40_27 h, r_40_28 h, i_40_29 h, r_40_30 h, r_40_31 h, r_40_32 h, r_40_33 h, r_40_34 h, r_40_35 h, r_40_36 h, r_40_37 h, i_40_38 h, i_40_39 h, i_40_40 h, i_40_41 h, i_40_42 h, i_40_43 h, i_40_44 h, i_40_45 h, r_40_46 h, r_40_47 h, r_40_48 h, r_40_49 h, r_40_50 h, r_40_51 h, r_40_52 h, r_40_53 h, r_40_54 h, r_40_55 h, r_40_56 h, r_40_57 h, r_40_58 h, i_40_59 h, i_40_60 h, r_40_61 h, o_40 h, j_82 h, n_82 h, M_isIn, hp, h1, hx, Bool.true_eq_false]
  · have h1 : inB x 0 (nI np - 1) = false := by simpa using h1
    simp only [s_M_printed_0, s_M_printed_1, s_M_printed_2, s_M_printed_3, s_M_printed_6, s_M_printed_7, s_M_printed_8, s_M_printed_11, s_M_printed_14, s_M_printed_15, s_M_printed_18, s_M_printed_19, s_M_printed_20, s_M_printed_23, s_M_printed_24, ↓reduceIte, Nat.reduceEqDiff, Nat.reduceLT, am_top, ax_f_some, ax_k_some, ax_k_none, s8_0, s8_1, s8_2, s8_3, s8_4, c2p_n, c2p_i, c2p_r, c2p_z, okvp_i, okvp_l, okvp_r, okvp_n, okvp_z, okvp_z0, okvp_z1, bi_narp, am_nar0p, am_nar1p, bi_0, bi_1, true_and, and_true, i_40_0 h, i_40_1 h, i_40_2 h, i_40_3 h, r_40_4 h, r_40_5 h, r_40_6 h, i_40_7 h, r_40_8 h, r_40_9 h, r_40_10 h, r_40_11 h, r_40_12 h, i_40_13 h, r_40_14 h, r_40_15 h, r_40_16 h, r_40_17 h, i_40_18 h, i_40_19 h, r_40_20 h, r_40_21 h, r_40_22 h, i_40_23 h, r_40_24 h, r_40_25 h, r_40_26 h, r_40_27 h, r_40_28 h, i_40_29 h, r_40_30 h, r_40_31 h, r_40_32 h, r_40_33 h, r_40_34 h, r_40_35 h, r_40_36 h, r_40_37 h, i_40_38 h, i_40_39 h, i_40_40 h, i_40_41 h, i_40_42 h, i_40_43 h, i_40_44 h, i_40_45 h, r_40_46 h, r_40_47 h, r_40_48 h, r_40_49 h, r_40_50 h, r_40_51 h, r_40_52 h, r_40_53 h, r_40_54 h, r_40_55 h, r_40_56 h, r_40_57 h, r_40_58 h, i_40_59 h, i_40_60 h, r_40_61 h, o_40 h, j_82 h, n_82 h, M_isIn, hp, h1, Bool.false_eq_true]
end M6
