/-! THE LAW, 2: its loop -/
theorem lt7 {L i : Nat} (hL : L ≤ 3584) (hi : i ≤ 4000) : (nI L - 7 < nI i) = (L < i + 7) := by
  apply propext
  have h7 : (7 : Int32).toInt = 7 := by decide
  rw [Int32.lt_iff_toInt_lt, Int32.toInt_sub, nI_toInt (by omega), nI_toInt (by omega), h7, Int.bmod_def]
  omega
section LL
variable {L : Nat} {xs : Nat → Int32} {Q : Option Value → am_H → Prop}
theorem law_loop (hL : L ≤ 3584) {S0 : Nat} (hQ : ∀ τ : am_H, τ.1 ≤ 4000 → τ.2.1 ≤ S0 + 50000 → Q (some (.int 1)) τ) : ∀ c i σ, L < i + 7 * c → i ≤ L + 7 → INV L xs σ → σ.1 ≤ 83 + i → σ.2.1 ≤ S0 + 13 * i → ax k_L_law 18 [some (.ref 1000000), some (.ref 0), some (.ref 40), some (.int (nI i))] [] σ Q := by
  intro c
  induction c with
  | zero =>
    intro i σ h1 h2 I b1 b2
    have hj := scr_j I.1.2.2
    have hc : L < i + 7 := by omega
    simp only [s_L_law_18, s_L_law_19, s_L_law_20, s_L_law_21, s_L_law_23, s_L_law_24, s_L_law_1396, s_L_law_1397, ↓reduceIte, Nat.reduceEqDiff, Nat.reduceLT, am_top, ax_f_some, ax_k_some, ax_k_none, s8_0, s8_1, s8_2, s8_3, s8_4, c2p_n, c2p_i, c2p_r, c2p_z, okvp_i, okvp_l, okvp_r, okvp_n, okvp_z, okvp_z0, okvp_z1, bi_narp, am_nar0p, am_nar1p, bi_0, bi_1, true_and, and_true, nv_of_j hj, ofNat_nI, lt7 hL (show i ≤ 4000 by omega), hc]
    exact hQ σ (by omega) (by omega)
  | succ c ih =>
    intro i σ h1 h2 I b1 b2
    have hj := scr_j I.1.2.2
    by_cases hc : L < i + 7
    · simp only [s_L_law_18, s_L_law_19, s_L_law_20, s_L_law_21, s_L_law_23, s_L_law_24, s_L_law_1396, s_L_law_1397, ↓reduceIte, Nat.reduceEqDiff, Nat.reduceLT, am_top, ax_f_some, ax_k_some, ax_k_none, s8_0, s8_1, s8_2, s8_3, s8_4, c2p_n, c2p_i, c2p_r, c2p_z, okvp_i, okvp_l, okvp_r, okvp_n, okvp_z, okvp_z0, okvp_z1, bi_narp, am_nar0p, am_nar1p, bi_0, bi_1, true_and, and_true, nv_of_j hj, ofNat_nI, lt7 hL (show i ≤ 4000 by omega), hc]
      exact hQ σ (by omega) (by omega)
    · have hi : i + 7 ≤ L := by omega
      have hT : σ.1 < am_top := by show σ.1 < 1000000; omega
      have go : ∀ τ, INV L xs τ → Gr σ τ → ax k_L_law 1390 [some (.ref 1000000), some (.ref 0), some (.ref 40), some (.int (nI i))] [] τ Q := by
        intro τ hI hG
        simp only [s_L_law_1390, s_L_law_1393, ↓reduceIte, Nat.reduceEqDiff, Nat.reduceLT, am_top, ax_f_some, ax_k_some, ax_k_none, s8_0, s8_1, s8_2, s8_3, s8_4, c2p_n, c2p_i, c2p_r, c2p_z, okvp_i, okvp_l, okvp_r, okvp_n, okvp_z, okvp_z0, okvp_z1, bi_narp, am_nar0p, am_nar1p, bi_0, bi_1, true_and, and_true, nI_k7]
        have g1 := hG.1
        have g2 := hG.2
        exact ih (i + 7) τ (by omega) (by omega) hI (by omega) (by omega)
      have x0 := ix_nI (show i < L by omega) (by omega)
      have d0 : (nI i).toNatClampNeg = i := nI_clamp (by omega)
      simp only [s_L_law_18, s_L_law_19, s_L_law_20, s_L_law_21, s_L_law_23, s_L_law_24, s_L_law_27, s_L_law_28, s_L_law_29, s_L_law_30, s_L_law_32, ↓reduceIte, Nat.reduceEqDiff, Nat.reduceLT, am_top, ax_f_some, ax_k_some, ax_k_none, s8_0, s8_1, s8_2, s8_3, s8_4, c2p_n, c2p_i, c2p_r, c2p_z, okvp_i, okvp_l, okvp_r, okvp_n, okvp_z, okvp_z0, okvp_z1, bi_narp, am_nar0p, am_nar1p, bi_0, bi_1, true_and, and_true, nv_of_j hj, hj, ofNat_nI, lt7 hL (show i ≤ 4000 by omega), hc, x0, d0]
      rw [s_L_law_33]
      by_cases e0 : xs i &&& 31 = 0
      · rw [if_pos e0]
        exact l_minute I hi hL go
      rw [if_neg e0]
      by_cases e1 : xs i &&& 31 = 1
      · rw [if_pos e1]
        exact l_word I hi hL go
      rw [if_neg e1]
      by_cases e2 : xs i &&& 31 = 2
      · rw [if_pos e2]
        exact l_put I hi hL go
      rw [if_neg e2]
      by_cases e3 : xs i &&& 31 = 3
      · rw [if_pos e3]
        exact l_within I hi hL go
      rw [if_neg e3]
      by_cases e4 : xs i &&& 31 = 4
      · rw [if_pos e4]
        exact l_picture I hi hL go
      rw [if_neg e4]
      by_cases e5 : xs i &&& 31 = 5
      · rw [if_pos e5]
        exact l_caption I hi hL go
      rw [if_neg e5]
      by_cases e6 : xs i &&& 31 = 6
      · rw [if_pos e6]
        exact l_has I hi hL go
      rw [if_neg e6]
      by_cases e7 : xs i &&& 31 = 7
      · rw [if_pos e7]
        exact l_search I hi hL go
      rw [if_neg e7]
      by_cases e8 : xs i &&& 31 = 8
      · rw [if_pos e8]
        exact l_found I hi hL go
      rw [if_neg e8]
      by_cases e9 : xs i &&& 31 = 9
      · rw [if_pos e9]
        exact l_far I hi hL go
      rw [if_neg e9]
      by_cases e10 : xs i &&& 31 = 10
      · rw [if_pos e10]
        exact l_limit I hi hL go
      rw [if_neg e10]
      by_cases e11 : xs i &&& 31 = 11
      · rw [if_pos e11]
        exact l_set I hi hL go
      rw [if_neg e11]
      by_cases e12 : xs i &&& 31 = 12
      · rw [if_pos e12]
        exact l_leave I hi hL go
      rw [if_neg e12]
      by_cases e13 : xs i &&& 31 = 13
      · rw [if_pos e13]
        exact l_embargo I hi hL go
      rw [if_neg e13]
      by_cases e14 : xs i &&& 31 = 14
      · rw [if_pos e14]
        exact l_known I hi hL go
      rw [if_neg e14]
      by_cases e15 : xs i &&& 31 = 15
      · rw [if_pos e15]
        exact l_feed I hi hL go
      rw [if_neg e15]
      by_cases e16 : xs i &&& 31 = 16
      · rw [if_pos e16]
        exact l_end I hi hL go
      rw [if_neg e16]
      by_cases e17 : xs i &&& 31 = 17
      · rw [if_pos e17]
        exact l_text I hT hi hL go
      rw [if_neg e17]
      by_cases e18 : xs i &&& 31 = 18
      · rw [if_pos e18]
        exact l_fault I hi hL go
      rw [if_neg e18]
      by_cases e19 : xs i &&& 31 = 19
      · rw [if_pos e19]
        exact l_why I hi hL go
      rw [if_neg e19]
      by_cases e20 : xs i &&& 31 = 20
      · rw [if_pos e20]
        exact l_by I hi hL go
      rw [if_neg e20]
      by_cases e21 : xs i &&& 31 = 21
      · rw [if_pos e21]
        exact l_rate I hi hL go
      rw [if_neg e21]
      by_cases e22 : xs i &&& 31 = 22
      · rw [if_pos e22]
        exact l_sale I hT hi hL go
      rw [if_neg e22]
      by_cases e23 : xs i &&& 31 = 23
      · rw [if_pos e23]
        exact l_strike I hi hL go
      rw [if_neg e23]
      by_cases e24 : xs i &&& 31 = 24
      · rw [if_pos e24]
        exact l_saleOf I hi hL go
      rw [if_neg e24]
      by_cases e25 : xs i &&& 31 = 25
      · rw [if_pos e25]
        exact l_got I hi hL go
      rw [if_neg e25]
      by_cases e26 : xs i &&& 31 = 26
      · rw [if_pos e26]
        exact l_print I hi hL go
      rw [if_neg e26]
      by_cases e27 : xs i &&& 31 = 27
      · rw [if_pos e27]
        exact l_printed I hi hL go
      rw [if_neg e27]
      by_cases e28 : xs i &&& 31 = 28
      · rw [if_pos e28]
        exact l_about I hi hL go
      rw [if_neg e28]
      exact go σ I (Gr_refl σ)
end LL
