/-! THE CLASS, 3: the log's reads; words -/
/-- how many rows from the first on were told by m -/
def tolR (fm : Nat → Int32) (m : Int32) : Nat → Nat → Nat
  | 0, k => k
  | c + 1, k => if m < fm k then k else tolR fm m c (k + 1)
section A2
variable {σ : am_H} {Q : Option Value → am_H → Prop} {o a b c N n : Nat} {fm ft fv : Nat → Int32}
theorem Log_toldBy_loop (h : LogAt σ o a b c N n fm ft fv) (m : Int32) : ∀ j k, k + j = n → ax k_Log_toldBy 2 [some (.ref o), some (.int m), some (.int (nI k))] [] σ Q = Q (some (.int (nI (tolR fm m j k)))) σ := by
  obtain ⟨h0, h1, h2, h3, ja, jb, jc, ⟨e1, e2, e3⟩, ⟨t0, t1, t2, t3⟩, hn, hN⟩ := h
  intro j
  induction j with
  | zero =>
    intro k hk
    have hk : k = n := by omega
    subst hk
    have hc : ¬ nI k < nI k := Int32.lt_irrefl
    rw [s_Log_toldBy_2]
    simp only [s_Log_toldBy_0, s_Log_toldBy_1, s_Log_toldBy_3, s_Log_toldBy_4, s_Log_toldBy_7, s_Log_toldBy_10, s_Log_toldBy_11, s_Log_toldBy_14, s_Log_toldBy_15, s_Log_toldBy_16, s_Log_toldBy_17, s_Log_toldBy_20, s_Log_toldBy_23, s_Log_toldBy_26, s_Log_toldBy_27, ↓reduceIte, Nat.reduceEqDiff, Nat.reduceLT, am_top, ax_f_some, ax_k_some, ax_k_none, s8_0, s8_1, s8_2, s8_3, s8_4, c2p_n, c2p_i, c2p_r, c2p_z, okvp_i, okvp_l, okvp_r, okvp_n, okvp_z, okvp_z0, okvp_z1, bi_narp, am_nar0p, am_nar1p, bi_0, bi_1, true_and, and_true, h0, h1, h2, h3, hc, tolR]
  | succ j ih =>
    intro k hk
    have ih := ih (k + 1) (by omega)
    have hc : nI k < nI n := nI_lt (by omega) (by omega)
    have hix := ix_nI (show k < N by omega) (by omega)
    have hcl : (nI k).toNatClampNeg = k := nI_clamp (by omega)
    rw [s_Log_toldBy_2]
    simp only [s_Log_toldBy_0, s_Log_toldBy_1, s_Log_toldBy_3, s_Log_toldBy_4, s_Log_toldBy_7, s_Log_toldBy_10, s_Log_toldBy_11, s_Log_toldBy_14, s_Log_toldBy_15, s_Log_toldBy_16, s_Log_toldBy_17, s_Log_toldBy_20, s_Log_toldBy_23, s_Log_toldBy_26, s_Log_toldBy_27, ↓reduceIte, Nat.reduceEqDiff, Nat.reduceLT, am_top, ax_f_some, ax_k_some, ax_k_none, s8_0, s8_1, s8_2, s8_3, s8_4, c2p_n, c2p_i, c2p_r, c2p_z, okvp_i, okvp_l, okvp_r, okvp_n, okvp_z, okvp_z0, okvp_z1, bi_narp, am_nar0p, am_nar1p, bi_0, bi_1, true_and, and_true, h0, h1, h2, h3, ja, jb, jc, hc, hix, hcl, nI_1, tolR, ih]
    by_cases c1 : m < fm k <;> simp [c1]
theorem Log_toldBy (h : LogAt σ o a b c N n fm ft fv) (m : Int32) : ax k_Log_toldBy 0 [some (.ref o), some (.int m), none] [] σ Q = Q (some (.int (nI (tolR fm m n 0)))) σ := by
  rw [← Log_toldBy_loop (Q := Q) h m n 0 (by omega)]
  simp only [s_Log_toldBy_0, s_Log_toldBy_1, s_Log_toldBy_3, s_Log_toldBy_4, s_Log_toldBy_7, s_Log_toldBy_10, s_Log_toldBy_11, s_Log_toldBy_14, s_Log_toldBy_15, s_Log_toldBy_16, s_Log_toldBy_17, s_Log_toldBy_20, s_Log_toldBy_23, s_Log_toldBy_26, s_Log_toldBy_27, ↓reduceIte, Nat.reduceEqDiff, Nat.reduceLT, am_top, ax_f_some, ax_k_some, ax_k_none, s8_0, s8_1, s8_2, s8_3, s8_4, c2p_n, c2p_i, c2p_r, c2p_z, okvp_i, okvp_l, okvp_r, okvp_n, okvp_z, okvp_z0, okvp_z1, bi_narp, am_nar0p, am_nar1p, bi_0, bi_1, true_and, and_true, nI_0]
theorem Log_thingAt (h : LogAt σ o a b c N n fm ft fv) {i : Nat} (hi : i < n) : ax k_Log_thingAt 0 [some (.ref o), some (.int (nI i))] [] σ Q = Q (some (.int (ft i))) σ := by
  obtain ⟨h0, h1, h2, h3, ja, jb, jc, ⟨e1, e2, e3⟩, ⟨t0, t1, t2, t3⟩, hn, hN⟩ := h
  have hc : nI i < nI n := nI_lt hi (by omega)
  have hp : ¬ nI i < 0 := nI_pos (by omega)
  have hix := ix_nI (show i < N by omega) (by omega)
  have hcl : (nI i).toNatClampNeg = i := nI_clamp (by omega)
  simp only [s_Log_thingAt_0, s_Log_thingAt_1, s_Log_thingAt_4, s_Log_thingAt_5, s_Log_thingAt_6, s_Log_thingAt_9, s_Log_thingAt_12, s_Log_thingAt_13, s_Log_thingAt_16, s_Log_thingAt_17, s_Log_thingAt_18, s_Log_thingAt_21, s_Log_thingAt_22, ↓reduceIte, Nat.reduceEqDiff, Nat.reduceLT, am_top, ax_f_some, ax_k_some, ax_k_none, s8_0, s8_1, s8_2, s8_3, s8_4, c2p_n, c2p_i, c2p_r, c2p_z, okvp_i, okvp_l, okvp_r, okvp_n, okvp_z, okvp_z0, okvp_z1, bi_narp, am_nar0p, am_nar1p, bi_0, bi_1, true_and, and_true, h0, h1, h2, h3, ja, jb, jc, hc, hp, hix, hcl]
theorem Log_valueAt (h : LogAt σ o a b c N n fm ft fv) {i : Nat} (hi : i < n) : ax k_Log_valueAt 0 [some (.ref o), some (.int (nI i))] [] σ Q = Q (some (.int (fv i))) σ := by
  obtain ⟨h0, h1, h2, h3, ja, jb, jc, ⟨e1, e2, e3⟩, ⟨t0, t1, t2, t3⟩, hn, hN⟩ := h
  have hc : nI i < nI n := nI_lt hi (by omega)
  have hp : ¬ nI i < 0 := nI_pos (by omega)
  have hix := ix_nI (show i < N by omega) (by omega)
  have hcl : (nI i).toNatClampNeg = i := nI_clamp (by omega)
  simp only [s_Log_valueAt_0, s_Log_valueAt_1, s_Log_valueAt_4, s_Log_valueAt_5, s_Log_valueAt_6, s_Log_valueAt_9, s_Log_valueAt_12, s_Log_valueAt_13, s_Log_valueAt_16, s_Log_valueAt_17, s_Log_valueAt_18, s_Log_valueAt_21, s_Log_valueAt_22, ↓reduceIte, Nat.reduceEqDiff, Nat.reduceLT, am_top, ax_f_some, ax_k_some, ax_k_none, s8_0, s8_1, s8_2, s8_3, s8_4, c2p_n, c2p_i, c2p_r, c2p_z, okvp_i, okvp_l, okvp_r, okvp_n, okvp_z, okvp_z0, okvp_z1, bi_narp, am_nar0p, am_nar1p, bi_0, bi_1, true_and, and_true, h0, h1, h2, h3, ja, jb, jc, hc, hp, hix, hcl]
theorem LogPut (h : SH σ) (hn : gi σ 5 3 3 = nI n) (hle : n ≤ 100) : LogAt σ 5 6 7 8 100 n (ga σ 6) (ga σ 7) (ga σ 8) := by
  have e := i_5_3 h
  rw [hn] at e
  exact ⟨r_5_0 h, r_5_1 h, r_5_2 h, e, j_6 h, j_7 h, j_8 h, by decide, by decide, hle, by decide⟩
theorem LogCap (h : SH σ) (hn : gi σ 17 3 3 = nI n) (hle : n ≤ 200) : LogAt σ 17 18 19 20 200 n (ga σ 18) (ga σ 19) (ga σ 20) := by
  have e := i_17_3 h
  rw [hn] at e
  exact ⟨r_17_0 h, r_17_1 h, r_17_2 h, e, j_18 h, j_19 h, j_20 h, by decide, by decide, hle, by decide⟩
theorem LogLea (h : SH σ) (hn : gi σ 22 3 3 = nI n) (hle : n ≤ 100) : LogAt σ 22 23 24 25 100 n (ga σ 23) (ga σ 24) (ga σ 25) := by
  have e := i_22_3 h
  rw [hn] at e
  exact ⟨r_22_0 h, r_22_1 h, r_22_2 h, e, j_23 h, j_24 h, j_25 h, by decide, by decide, hle, by decide⟩
theorem LogEmb (h : SH σ) (hn : gi σ 26 3 3 = nI n) (hle : n ≤ 100) : LogAt σ 26 27 28 29 100 n (ga σ 27) (ga σ 28) (ga σ 29) := by
  have e := i_26_3 h
  rw [hn] at e
  exact ⟨r_26_0 h, r_26_1 h, r_26_2 h, e, j_27 h, j_28 h, j_29 h, by decide, by decide, hle, by decide⟩
theorem T_canHold (h : SH σ) (i : Int32) : ax k_WordTree_canHold 0 [some (.ref 1), some (.int i)] [] σ Q = Q (some (.int (bi (decide (i = -1) || ltB i (gi σ 1 9 4))))) σ := by
  simp only [s_WordTree_canHold_0, s_WordTree_canHold_1, s_WordTree_canHold_2, s_WordTree_canHold_5, s_WordTree_canHold_6, s_WordTree_canHold_7, s_WordTree_canHold_10, s_WordTree_canHold_13, s_WordTree_canHold_14, s_WordTree_canHold_17, s_WordTree_canHold_18, ↓reduceIte, Nat.reduceEqDiff, Nat.reduceLT, am_top, ax_f_some, ax_k_some, ax_k_none, s8_0, s8_1, s8_2, s8_3, s8_4, c2p_n, c2p_i, c2p_r, c2p_z, okvp_i, okvp_l, okvp_r, okvp_n, okvp_z, okvp_z0, okvp_z1, bi_narp, am_nar0p, am_nar1p, bi_0, bi_1, true_and, and_true, r_1_0 h, r_1_1 h, r_1_2 h, r_1_3 h, i_1_4 h, o_1 h, T_isWord h]
  by_cases h1 : i = -1 <;> cases ltB i (gi σ 1 9 4) <;> simp [h1, bi]
end A2
