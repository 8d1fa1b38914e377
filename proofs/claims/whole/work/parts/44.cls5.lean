/-! THE CLASS, 6: the tape, rate, fault -/
def aByt (v k : Int32) : Int32 := (v.toUInt32 >>> (k.toUInt32 &&& Int32.toUInt32 31)).toInt32 &&& 255
def aUp4 (f : Nat → Int32) (t : Nat) (v : Int32) : Nat → Int32 := upd (upd (upd (upd f t (aByt v 24)) (t + 1) (aByt v 16)) (t + 2) (aByt v 8)) (t + 3) (aByt v 0)
def aFour (σ : am_H) (t : Nat) (v : Int32) : am_H := am_set (am_put σ 31 1 (.int (nI (t + 4)))) 32 (am_ia 0 120 (aUp4 (ga σ 32) t v))
section A5
variable {σ : am_H} {Q : Option Value → am_H → Prop} {t : Nat}
theorem A_append (h : SH σ) (ht : gi σ 31 7 1 = nI t) (hle : t + 4 ≤ 120) (v : Int32) : ax k_Tape_append 0 [some (.ref 31), some (.int v), none] [] σ Q = Q none (aFour σ t v) := by
  have x0 := ix_nI (show t < 120 by omega) (by omega)
  have x1 := ix_nI (show t + 1 < 120 by omega) (by omega)
  have x2 := ix_nI (show t + 1 + 1 < 120 by omega) (by omega)
  have x3 := ix_nI (show t + 1 + 1 + 1 < 120 by omega) (by omega)
  have c0 : (nI t).toNatClampNeg = t := nI_clamp (by omega)
  have c1 : (nI (t + 1)).toNatClampNeg = t + 1 := nI_clamp (by omega)
  have c2 : (nI (t + 1 + 1)).toNatClampNeg = t + 1 + 1 := nI_clamp (by omega)
  have c3 : (nI (t + 1 + 1 + 1)).toNatClampNeg = t + 1 + 1 + 1 := nI_clamp (by omega)
  have m0 : nI t < nI 120 := nI_lt (by omega) (by omega)
  have m1 : nI (t + 1) < nI 120 := nI_lt (by omega) (by omega)
  have m2 : nI (t + 1 + 1) < nI 120 := nI_lt (by omega) (by omega)
  have m3 : nI (t + 1 + 1 + 1) < nI 120 := nI_lt (by omega) (by omega)
  have l0 : ((24 : Int32) < 0) = False := eq_false (by decide)
  have l1 : ((16 : Int32) < 0) = False := eq_false (by decide)
  have l2 : ((8 : Int32) < 0) = False := eq_false (by decide)
  have l3 : ((0 : Int32) < 0) = False := eq_false (by decide)
  have l4 : ((-8 : Int32) < 0) = True := eq_true (by decide)
  have a0 : (24 : Int32) + (-8) = 16 := by decide
  have a1 : (16 : Int32) + (-8) = 8 := by decide
  have a2 : (8 : Int32) + (-8) = 0 := by decide
  have a3 : (0 : Int32) + (-8) = -8 := by decide
  simp only [s_Tape_append_0, s_Tape_append_2, s_Tape_append_3, s_Tape_append_4, s_Tape_append_7, s_Tape_append_8, s_Tape_append_11, s_Tape_append_12, s_Tape_append_15, s_Tape_append_16, s_Tape_append_19, s_Tape_append_20, s_Tape_append_23, s_Tape_append_24, s_Tape_append_27, s_Tape_append_28, s_Tape_append_29, s_Tape_append_30, s_Tape_append_33, s_Tape_append_34, s_Tape_append_35, s_Tape_append_36, s_Tape_append_37, s_Tape_append_40, s_Tape_append_41, s_Tape_append_42, s_Tape_append_45, s_Tape_append_48, s_Tape_append_51, ↓reduceIte, Nat.reduceEqDiff, Nat.reduceLT, am_top, ax_f_some, ax_k_some, ax_k_none, s8_0, s8_1, s8_2, s8_3, s8_4, c2p_n, c2p_i, c2p_r, c2p_z, okvp_i, okvp_l, okvp_r, okvp_n, okvp_z, okvp_z0, okvp_z1, bi_narp, am_nar0p, am_nar1p, bi_0, bi_1, true_and, and_true, fld_set_ne, j_set_ne, q_set_ne, lv_set_ne, nv_set_ne, is_set_ne, j_set_eq, lv_set_eq, q_set_eq, nv_set_i, nv_set_l, nv_set_q, fld_put_ne, fld_put_k, fld_put_same, Option.map_some, j_put, q_put, lv_put, nv_put, is_put, put_1, set_1, r_31_0 h, i_31_1 h, o_31 h, j_32 h, n_32 h, ofNat_nI, ht, x0, x1, x2, x3, c0, c1, c2, c3, m0, m1, m2, m3, l0, l1, l2, l3, l4, a0, a1, a2, a3, nI_1, not_false_eq_true, put_set, set_set, put_put, aFour, aUp4, aByt]
theorem SH_aFour (h : SH σ) (t : Nat) (v : Int32) : SH (aFour σ t v) := by
  unfold aFour
  exact SH_set_j (SH_put_i (ci := 7) h (by decide) (by decide)) (by decide) (by decide) (by decide) (by decide) (by decide)
theorem aFour_1 (h : SH σ) (t : Nat) (v : Int32) : gi (aFour σ t v) 31 7 1 = nI (t + 4) := by
  unfold aFour
  rw [gi_set_ne (by decide)]
  exact gi_put_eq (i_31_1 h)
def aFeed (σ : am_H) (t : Nat) (a b c d e : Int32) : am_H := aFour (aFour (aFour (aFour (aFour σ t a) (t + 4) b) (t + 8) c) (t + 12) d) (t + 16) e
theorem A_feed (h : SH σ) (ht : gi σ 31 7 1 = nI t) (hle : t ≤ 120) (a b c d e : Int32) : ax k_A_feed 0 [some (.ref 0), some (.int a), some (.int b), some (.int c), some (.int d), some (.int e)] [] σ Q = (if t + 20 ≤ 120 then Q (some (.int (nI (t + 20)))) (aFeed σ t a b c d e) else Q (some (.int (-1))) σ) := by
  by_cases hc : t + 20 ≤ 120
  · have hc2 : ¬ nI 120 < nI (t + 20) := nI_nlt (by omega) (by omega)
    have s1 := SH_aFour h t a
    have g1 := aFour_1 h t a
    have s2 := SH_aFour s1 (t + 4) b
    have g2 := aFour_1 s1 (t + 4) b
    have s3 := SH_aFour s2 (t + 8) c
    have g3 := aFour_1 s2 (t + 8) c
    have s4 := SH_aFour s3 (t + 12) d
    have g4 := aFour_1 s3 (t + 12) d
    have s5 := SH_aFour s4 (t + 16) e
    have g5 := aFour_1 s4 (t + 16) e
    simp only [s_A_feed_0, s_A_feed_1, s_A_feed_4, s_A_feed_7, s_A_feed_9, s_A_feed_10, s_A_feed_12, s_A_feed_15, s_A_feed_16, s_A_feed_17, s_A_feed_18, s_A_feed_21, s_A_feed_22, s_A_feed_25, s_A_feed_26, s_A_feed_29, s_A_feed_30, s_A_feed_33, s_A_feed_34, s_A_feed_37, s_A_feed_38, s_A_feed_41, s_A_feed_42, s_A_feed_45, s_A_feed_47, s_A_feed_50, s_A_feed_51, s_A_feed_54, s_A_feed_56, s_A_feed_59, s_A_feed_60, s_A_feed_63, s_A_feed_66, ↓reduceIte, Nat.reduceEqDiff, Nat.reduceLT, am_top, ax_f_some, ax_k_some, ax_k_none, s8_0, s8_1, s8_2, s8_3, s8_4, c2p_n, c2p_i, c2p_r, c2p_z, okvp_i, okvp_l, okvp_r, okvp_n, okvp_z, okvp_z0, okvp_z1, bi_narp, am_nar0p, am_nar1p, bi_0, bi_1, true_and, and_true, r_0_0 h, r_0_1 h, r_0_2 h, r_0_3 h, r_0_4 h, r_0_5 h, r_0_6 h, r_0_7 h, r_0_8 h, r_0_9 h, i_0_10 h, i_0_11 h, o_0 h, r_31_0 h, i_31_1 h, o_31 h, r_0_0 s1, r_0_1 s1, r_0_2 s1, r_0_3 s1, r_0_4 s1, r_0_5 s1, r_0_6 s1, r_0_7 s1, r_0_8 s1, r_0_9 s1, i_0_10 s1, i_0_11 s1, o_0 s1, r_31_0 s1, i_31_1 s1, o_31 s1, r_0_0 s2, r_0_1 s2, r_0_2 s2, r_0_3 s2, r_0_4 s2, r_0_5 s2, r_0_6 s2, r_0_7 s2, r_0_8 s2, r_0_9 s2, i_0_10 s2, i_0_11 s2, o_0 s2, r_31_0 s2, i_31_1 s2, o_31 s2, r_0_0 s3, r_0_1 s3, r_0_2 s3, r_0_3 s3, r_0_4 s3, r_0_5 s3, r_0_6 s3, r_0_7 s3, r_0_8 s3, r_0_9 s3, i_0_10 s3, i_0_11 s3, o_0 s3, r_31_0 s3, i_31_1 s3, o_31 s3, r_0_0 s4, r_0_1 s4, r_0_2 s4, r_0_3 s4, r_0_4 s4, r_0_5 s4, r_0_6 s4, r_0_7 s4, r_0_8 s4, r_0_9 s4, i_0_10 s4, i_0_11 s4, o_0 s4, r_31_0 s4, i_31_1 s4, o_31 s4, r_0_0 s5, r_0_1 s5, r_0_2 s5, r_0_3 s5, r_0_4 s5, r_0_5 s5, r_0_6 s5, r_0_7 s5, r_0_8 s5, r_0_9 s5, i_0_10 s5, i_0_11 s5, o_0 s5, r_31_0 s5, i_31_1 s5, o_31 s5, e120, e20, ht, nI_add, hc2, hc, A_append h ht (show t + 4 ≤ 120 by omega), A_append s1 g1 (show t + 4 + 4 ≤ 120 by omega), A_append s2 g2 (show t + 8 + 4 ≤ 120 by omega), A_append s3 g3 (show t + 12 + 4 ≤ 120 by omega), A_append s4 g4 (show t + 16 + 4 ≤ 120 by omega), g5, aFeed]
  · have hc2 : nI 120 < nI (t + 20) := nI_lt (by omega) (by omega)
    simp only [s_A_feed_0, s_A_feed_1, s_A_feed_4, s_A_feed_7, s_A_feed_9, s_A_feed_10, s_A_feed_12, s_A_feed_15, s_A_feed_16, s_A_feed_17, s_A_feed_18, s_A_feed_21, s_A_feed_22, s_A_feed_25, s_A_feed_26, s_A_feed_29, s_A_feed_30, s_A_feed_33, s_A_feed_34, s_A_feed_37, s_A_feed_38, s_A_feed_41, s_A_feed_42, s_A_feed_45, s_A_feed_47, s_A_feed_50, s_A_feed_51, s_A_feed_54, s_A_feed_56, s_A_feed_59, s_A_feed_60, s_A_feed_63, s_A_feed_66, ↓reduceIte, Nat.reduceEqDiff, Nat.reduceLT, am_top, ax_f_some, ax_k_some, ax_k_none, s8_0, s8_1, s8_2, s8_3, s8_4, c2p_n, c2p_i, c2p_r, c2p_z, okvp_i, okvp_l, okvp_r, okvp_n, okvp_z, okvp_z0, okvp_z1, bi_narp, am_nar0p, am_nar1p, bi_0, bi_1, true_and, and_true, r_0_0 h, r_0_1 h, r_0_2 h, r_0_3 h, r_0_4 h, r_0_5 h, r_0_6 h, r_0_7 h, r_0_8 h, r_0_9 h, i_0_10 h, i_0_11 h, o_0 h, r_31_0 h, i_31_1 h, o_31 h, e120, e20, ht, nI_add, hc2, hc]
end A5
