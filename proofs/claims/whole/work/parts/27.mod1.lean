/-! THE REFERENCE, 1: small methods -/
def inB (v lo hi : Int32) : Bool := !decide (v < lo) && !decide (hi < v)
section M1
variable {σ : am_H} {Q : Option Value → am_H → Prop}
theorem M_isIn (v lo hi : Int32) : ax k_M_isIn 0 [some (.int v), some (.int lo), some (.int hi)] [] σ Q = Q (some (.int (bi (inB v lo hi)))) σ := by
  simp only [s_M_isIn_0, s_M_isIn_1, s_M_isIn_2, s_M_isIn_5, s_M_isIn_6, s_M_isIn_7, s_M_isIn_10, s_M_isIn_11, s_M_isIn_14, s_M_isIn_15, ↓reduceIte, Nat.reduceEqDiff, Nat.reduceLT, am_top, ax_f_some, ax_k_some, ax_k_none, s8_0, s8_1, s8_2, s8_3, s8_4, c2p_n, c2p_i, c2p_r, c2p_z, okvp_i, okvp_l, okvp_r, okvp_n, okvp_z, okvp_z0, okvp_z1, bi_narp, am_nar0p, am_nar1p, bi_0, bi_1, true_and, and_true]
  by_cases h1 : v < lo <;> by_cases h2 : hi < v <;> simp [inB, h1, h2, bi]
theorem M_isWord (o : Nat) (w n : Int32) (h : am_fld σ o 11 1 = some (.int n)) : ax k_M_isWord 0 [some (.ref o), some (.int w)] [] σ Q = Q (some (.int (bi (inB w 0 (n - 1))))) σ := by
  simp only [s_M_isWord_0, s_M_isWord_1, s_M_isWord_2, s_M_isWord_3, s_M_isWord_6, s_M_isWord_7, s_M_isWord_8, s_M_isWord_11, ↓reduceIte, Nat.reduceEqDiff, Nat.reduceLT, am_top, ax_f_some, ax_k_some, ax_k_none, s8_0, s8_1, s8_2, s8_3, s8_4, c2p_n, c2p_i, c2p_r, c2p_z, okvp_i, okvp_l, okvp_r, okvp_n, okvp_z, okvp_z0, okvp_z1, bi_narp, am_nar0p, am_nar1p, bi_0, bi_1, true_and, and_true, h, M_isIn]
theorem M_isPicture (o : Nat) (w n : Int32) (h : am_fld σ o 11 7 = some (.int n)) : ax k_M_isPicture 0 [some (.ref o), some (.int w)] [] σ Q = Q (some (.int (bi (inB w 0 (n - 1))))) σ := by
  simp only [s_M_isPicture_0, s_M_isPicture_1, s_M_isPicture_2, s_M_isPicture_3, s_M_isPicture_6, s_M_isPicture_7, s_M_isPicture_8, s_M_isPicture_11, ↓reduceIte, Nat.reduceEqDiff, Nat.reduceLT, am_top, ax_f_some, ax_k_some, ax_k_none, s8_0, s8_1, s8_2, s8_3, s8_4, c2p_n, c2p_i, c2p_r, c2p_z, okvp_i, okvp_l, okvp_r, okvp_n, okvp_z, okvp_z0, okvp_z1, bi_narp, am_nar0p, am_nar1p, bi_0, bi_1, true_and, and_true, h, M_isIn]
theorem M_isPast (o : Nat) (w n : Int32) (h : am_fld σ o 11 0 = some (.int n)) : ax k_M_isPast 0 [some (.ref o), some (.int w)] [] σ Q = Q (some (.int (bi (inB w 0 n)))) σ := by
  simp only [s_M_isPast_0, s_M_isPast_1, s_M_isPast_2, s_M_isPast_3, s_M_isPast_6, s_M_isPast_9, ↓reduceIte, Nat.reduceEqDiff, Nat.reduceLT, am_top, ax_f_some, ax_k_some, ax_k_none, s8_0, s8_1, s8_2, s8_3, s8_4, c2p_n, c2p_i, c2p_r, c2p_z, okvp_i, okvp_l, okvp_r, okvp_n, okvp_z, okvp_z0, okvp_z1, bi_narp, am_nar0p, am_nar1p, bi_0, bi_1, true_and, and_true, h, M_isIn]
theorem M_minute (o : Nat) (ho : o < am_top) (m n : Int32) (h : am_fld σ o 11 0 = some (.int n)) : ax k_M_minute 0 [some (.ref o), some (.int m)] [] σ Q = (if inB m n 100000 = true then Q (some (.int 1)) (am_put σ o 0 (.int m)) else Q (some (.int 0)) σ) := by
  simp only [s_M_minute_0, s_M_minute_1, s_M_minute_2, s_M_minute_5, s_M_minute_7, s_M_minute_10, s_M_minute_13, s_M_minute_14, s_M_minute_15, s_M_minute_16, s_M_minute_17, s_M_minute_20, s_M_minute_21, ↓reduceIte, Nat.reduceEqDiff, Nat.reduceLT, am_top, ax_f_some, ax_k_some, ax_k_none, s8_0, s8_1, s8_2, s8_3, s8_4, c2p_n, c2p_i, c2p_r, c2p_z, okvp_i, okvp_l, okvp_r, okvp_n, okvp_z, okvp_z0, okvp_z1, bi_narp, am_nar0p, am_nar1p, bi_0, bi_1, true_and, and_true, h, M_isIn, ho]
  by_cases h1 : inB m n 100000 = true <;> simp [h1]
end M1
