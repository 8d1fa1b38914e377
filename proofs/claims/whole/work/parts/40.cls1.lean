/-! THE CLASS, 2: small methods -/
section A1
variable {σ : am_H} {Q : Option Value → am_H → Prop}
theorem A_isMinute (n : Int32) : ax k_A_isMinute 0 [some (.int n)] [] σ Q = Q (some (.int (bi (inB n 0 100000)))) σ := by
  simp only [s_A_isMinute_0, s_A_isMinute_1, s_A_isMinute_4, s_A_isMinute_5, s_A_isMinute_7, s_A_isMinute_10, s_A_isMinute_11, s_A_isMinute_14, s_A_isMinute_15, ↓reduceIte, Nat.reduceEqDiff, Nat.reduceLT, am_top, ax_f_some, ax_k_some, ax_k_none, s8_0, s8_1, s8_2, s8_3, s8_4, c2p_n, c2p_i, c2p_r, c2p_z, okvp_i, okvp_l, okvp_r, okvp_n, okvp_z, okvp_z0, okvp_z1, bi_narp, am_nar0p, am_nar1p, bi_0, bi_1, true_and, and_true]
  by_cases h1 : n < 0 <;> by_cases h2 : 100000 < n <;> simp [inB, h1, h2, bi]
/-- 0 ≤ n < c, as the class asks it -/
def ltB (n c : Int32) : Bool := !decide (n < 0) && decide (n < c)
theorem A_isPerson (n : Int32) : ax k_A_isPerson 0 [some (.int n)] [] σ Q = Q (some (.int (bi (ltB n 16)))) σ := by
  simp only [s_A_isPerson_0, s_A_isPerson_1, s_A_isPerson_4, s_A_isPerson_5, s_A_isPerson_7, s_A_isPerson_10, s_A_isPerson_11, s_A_isPerson_14, s_A_isPerson_15, ↓reduceIte, Nat.reduceEqDiff, Nat.reduceLT, am_top, ax_f_some, ax_k_some, ax_k_none, s8_0, s8_1, s8_2, s8_3, s8_4, c2p_n, c2p_i, c2p_r, c2p_z, okvp_i, okvp_l, okvp_r, okvp_n, okvp_z, okvp_z0, okvp_z1, bi_narp, am_nar0p, am_nar1p, bi_0, bi_1, true_and, and_true]
  by_cases h1 : n < 0 <;> by_cases h2 : n < 16 <;> simp [ltB, h1, h2, bi]
theorem A_isLand (n : Int32) : ax k_A_isLand 0 [some (.int n)] [] σ Q = Q (some (.int (bi (ltB n 10)))) σ := by
  simp only [s_A_isLand_0, s_A_isLand_1, s_A_isLand_4, s_A_isLand_5, s_A_isLand_7, s_A_isLand_10, s_A_isLand_11, s_A_isLand_14, s_A_isLand_15, ↓reduceIte, Nat.reduceEqDiff, Nat.reduceLT, am_top, ax_f_some, ax_k_some, ax_k_none, s8_0, s8_1, s8_2, s8_3, s8_4, c2p_n, c2p_i, c2p_r, c2p_z, okvp_i, okvp_l, okvp_r, okvp_n, okvp_z, okvp_z0, okvp_z1, bi_narp, am_nar0p, am_nar1p, bi_0, bi_1, true_and, and_true]
  by_cases h1 : n < 0 <;> by_cases h2 : n < 10 <;> simp [ltB, h1, h2, bi]
theorem A_isUse (n : Int32) : ax k_A_isUse 0 [some (.int n)] [] σ Q = Q (some (.int (bi (ltB n 5)))) σ := by
  simp only [s_A_isUse_0, s_A_isUse_1, s_A_isUse_4, s_A_isUse_5, s_A_isUse_6, s_A_isUse_9, s_A_isUse_10, s_A_isUse_13, s_A_isUse_14, ↓reduceIte, Nat.reduceEqDiff, Nat.reduceLT, am_top, ax_f_some, ax_k_some, ax_k_none, s8_0, s8_1, s8_2, s8_3, s8_4, c2p_n, c2p_i, c2p_r, c2p_z, okvp_i, okvp_l, okvp_r, okvp_n, okvp_z, okvp_z0, okvp_z1, bi_narp, am_nar0p, am_nar1p, bi_0, bi_1, true_and, and_true]
  by_cases h1 : n < 0 <;> by_cases h2 : n < 5 <;> simp [ltB, h1, h2, bi]
theorem A_isSize (n : Int32) : ax k_A_isSize 0 [some (.int n)] [] σ Q = Q (some (.int (bi (inB n 1 1000)))) σ := by
  simp only [s_A_isSize_0, s_A_isSize_1, s_A_isSize_2, s_A_isSize_5, s_A_isSize_6, s_A_isSize_9, s_A_isSize_12, s_A_isSize_13, s_A_isSize_16, s_A_isSize_17, ↓reduceIte, Nat.reduceEqDiff, Nat.reduceLT, am_top, ax_f_some, ax_k_some, ax_k_none, s8_0, s8_1, s8_2, s8_3, s8_4, c2p_n, c2p_i, c2p_r, c2p_z, okvp_i, okvp_l, okvp_r, okvp_n, okvp_z, okvp_z0, okvp_z1, bi_narp, am_nar0p, am_nar1p, bi_0, bi_1, true_and, and_true]
  by_cases h1 : n < 1 <;> by_cases h2 : 1000 < n <;> simp [inB, h1, h2, bi]
def hldB (x : Int64) (n : Int32) : Bool := ltB n 64 && !decide ((x >>> (n.toInt64 &&& 63)) &&& 1 = 0)
theorem lgc (x : Int64) : (lg_cmp x 0 = 0) = (x = 0) := by
  unfold lg_cmp
  by_cases h1 : x > 0
  · have : ¬ x = 0 := fun e => by rw [e] at h1; exact Int64.lt_irrefl h1
    simp [h1, this]
  · by_cases h2 : x = 0 <;> simp [h1, h2]
theorem A_holds (x : Int64) (n : Int32) : ax k_A_holds 0 [some (.long x), none, some (.int n)] [] σ Q = Q (some (.int (bi (hldB x n)))) σ := by
  simp only [s_A_holds_0, s_A_holds_1, s_A_holds_4, s_A_holds_5, s_A_holds_7, s_A_holds_10, s_A_holds_11, s_A_holds_12, s_A_holds_13, s_A_holds_14, s_A_holds_15, s_A_holds_16, s_A_holds_17, s_A_holds_20, s_A_holds_21, s_A_holds_24, s_A_holds_25, ↓reduceIte, Nat.reduceEqDiff, Nat.reduceLT, am_top, ax_f_some, ax_k_some, ax_k_none, s8_0, s8_1, s8_2, s8_3, s8_4, c2p_n, c2p_i, c2p_r, c2p_z, okvp_i, okvp_l, okvp_r, okvp_n, okvp_z, okvp_z0, okvp_z1, bi_narp, am_nar0p, am_nar1p, bi_0, bi_1, true_and, and_true, lgc]
  by_cases h1 : n < 0 <;> by_cases h2 : n < 64 <;> by_cases h3 : (x >>> (n.toInt64 &&& 63)) &&& 1 = 0 <;> simp [hldB, ltB, h1, h2, h3, bi]
theorem A_isPast (h : SH σ) (n : Int32) : ax k_A_isPast 0 [some (.ref 0), some (.int n)] [] σ Q = Q (some (.int (bi (inB n 0 (gi σ 0 10 11))))) σ := by
  simp only [s_A_isPast_0, s_A_isPast_1, s_A_isPast_4, s_A_isPast_5, s_A_isPast_6, s_A_isPast_9, s_A_isPast_12, s_A_isPast_13, s_A_isPast_16, s_A_isPast_17, ↓reduceIte, Nat.reduceEqDiff, Nat.reduceLT, am_top, ax_f_some, ax_k_some, ax_k_none, s8_0, s8_1, s8_2, s8_3, s8_4, c2p_n, c2p_i, c2p_r, c2p_z, okvp_i, okvp_l, okvp_r, okvp_n, okvp_z, okvp_z0, okvp_z1, bi_narp, am_nar0p, am_nar1p, bi_0, bi_1, true_and, and_true, r_0_0 h, r_0_1 h, r_0_2 h, r_0_3 h, r_0_4 h, r_0_5 h, r_0_6 h, r_0_7 h, r_0_8 h, r_0_9 h, i_0_10 h, i_0_11 h, o_0 h]
  by_cases h1 : n < 0 <;> by_cases h2 : gi σ 0 10 11 < n <;> simp [inB, h1, h2, bi]
theorem A_minute (h : SH σ) (m : Int32) : ax k_A_minute 0 [some (.ref 0), some (.int m)] [] σ Q = (if inB m 0 100000 = true ∧ ¬ m < gi σ 0 10 11 then Q (some (.int 1)) (am_put σ 0 11 (.int m)) else Q (some (.int 0)) σ) := by
  simp only [s_A_minute_0, s_A_minute_1, s_A_minute_4, s_A_minute_7, s_A_minute_8, s_A_minute_9, s_A_minute_12, s_A_minute_15, s_A_minute_16, s_A_minute_17, s_A_minute_18, s_A_minute_19, s_A_minute_22, s_A_minute_23, ↓reduceIte, Nat.reduceEqDiff, Nat.reduceLT, am_top, ax_f_some, ax_k_some, ax_k_none, s8_0, s8_1, s8_2, s8_3, s8_4, c2p_n, c2p_i, c2p_r, c2p_z, okvp_i, okvp_l, okvp_r, okvp_n, okvp_z, okvp_z0, okvp_z1, bi_narp, am_nar0p, am_nar1p, bi_0, bi_1, true_and, and_true, r_0_0 h, r_0_1 h, r_0_2 h, r_0_3 h, r_0_4 h, r_0_5 h, r_0_6 h, r_0_7 h, r_0_8 h, r_0_9 h, i_0_10 h, i_0_11 h, o_0 h, A_isMinute]
  by_cases h1 : inB m 0 100000 = true <;> by_cases h2 : m < gi σ 0 10 11 <;> simp [h1, h2]
theorem T_isWord (h : SH σ) (n : Int32) : ax k_WordTree_isWord 0 [some (.ref 1), some (.int n)] [] σ Q = Q (some (.int (bi (ltB n (gi σ 1 9 4))))) σ := by
  simp only [s_WordTree_isWord_0, s_WordTree_isWord_1, s_WordTree_isWord_4, s_WordTree_isWord_5, s_WordTree_isWord_6, s_WordTree_isWord_9, s_WordTree_isWord_12, s_WordTree_isWord_13, s_WordTree_isWord_16, s_WordTree_isWord_17, ↓reduceIte, Nat.reduceEqDiff, Nat.reduceLT, am_top, ax_f_some, ax_k_some, ax_k_none, s8_0, s8_1, s8_2, s8_3, s8_4, c2p_n, c2p_i, c2p_r, c2p_z, okvp_i, okvp_l, okvp_r, okvp_n, okvp_z, okvp_z0, okvp_z1, bi_narp, am_nar0p, am_nar1p, bi_0, bi_1, true_and, and_true, r_1_0 h, r_1_1 h, r_1_2 h, r_1_3 h, i_1_4 h, o_1 h]
  by_cases h1 : n < 0 <;> by_cases h2 : n < gi σ 1 9 4 <;> simp [ltB, h1, h2, bi]
theorem Al_isPicture (h : SH σ) (n : Int32) : ax k_Album_isPicture 0 [some (.ref 9), some (.int n)] [] σ Q = Q (some (.int (bi (ltB n (gi σ 9 0 6))))) σ := by
  simp only [s_Album_isPicture_0, s_Album_isPicture_1, s_Album_isPicture_4, s_Album_isPicture_5, s_Album_isPicture_6, s_Album_isPicture_9, s_Album_isPicture_12, s_Album_isPicture_13, s_Album_isPicture_16, s_Album_isPicture_17, ↓reduceIte, Nat.reduceEqDiff, Nat.reduceLT, am_top, ax_f_some, ax_k_some, ax_k_none, s8_0, s8_1, s8_2, s8_3, s8_4, c2p_n, c2p_i, c2p_r, c2p_z, okvp_i, okvp_l, okvp_r, okvp_n, okvp_z, okvp_z0, okvp_z1, bi_narp, am_nar0p, am_nar1p, bi_0, bi_1, true_and, and_true, r_9_0 h, r_9_1 h, r_9_2 h, r_9_3 h, r_9_4 h, r_9_5 h, i_9_6 h, i_9_7 h, o_9 h]
  by_cases h1 : n < 0 <;> by_cases h2 : n < gi σ 9 0 6 <;> simp [ltB, h1, h2, bi]
theorem A_limit (h : SH σ) (v : Int32) : ax k_A_limit 0 [some (.ref 0), some (.int v)] [] σ Q = (if inB v 0 240 = true then Q (some (.int 1)) (am_put σ 9 7 (.int v)) else Q (some (.int 0)) σ) := by
  simp only [s_A_limit_0, s_A_limit_1, s_A_limit_4, s_A_limit_5, s_A_limit_8, s_A_limit_11, s_A_limit_12, s_A_limit_13, s_A_limit_14, s_A_limit_17, s_A_limit_18, s_A_limit_21, s_A_limit_22, ↓reduceIte, Nat.reduceEqDiff, Nat.reduceLT, am_top, ax_f_some, ax_k_some, ax_k_none, s8_0, s8_1, s8_2, s8_3, s8_4, c2p_n, c2p_i, c2p_r, c2p_z, okvp_i, okvp_l, okvp_r, okvp_n, okvp_z, okvp_z0, okvp_z1, bi_narp, am_nar0p, am_nar1p, bi_0, bi_1, true_and, and_true, r_0_0 h, r_0_1 h, r_0_2 h, r_0_3 h, r_0_4 h, r_0_5 h, r_0_6 h, r_0_7 h, r_0_8 h, r_0_9 h, i_0_10 h, i_0_11 h, o_0 h, r_9_0 h, r_9_1 h, r_9_2 h, r_9_3 h, r_9_4 h, r_9_5 h, i_9_6 h, i_9_7 h, o_9 h]
  by_cases h1 : v < 0 <;> by_cases h2 : 240 < v <;> simp [inB, h1, h2]
end A1
