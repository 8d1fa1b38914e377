/-! THE REFERENCE, 8: firstOf, set, put, strike, saleOf, about -/
theorem inB_ix {np N : Nat} {x : Int32} (hnp : np ≤ N) (hN : N < 2 ^ 31) (h1 : inB x 0 (nI np - 1) = true) : ∃ j, j < np ∧ x = nI j := by
  simp only [inB, Bool.and_eq_true, Bool.not_eq_true', decide_eq_false_iff_not] at h1
  cases np with
  | zero =>
    exfalso
    rw [nI_neg1] at h1
    exact h1.1 (Int32.lt_of_le_of_lt (Int32.not_lt.mp h1.2) (by decide))
  | succ q =>
    rw [nI_pred] at h1
    obtain ⟨j, hj, rfl⟩ := nI_of h1.1
    have : j ≤ q := Nat.not_lt.mp fun z => h1.2 (nI_lt z hj)
    exact ⟨j, by omega, rfl⟩
theorem inB_nI {np k : Nat} (hnp : np < 2 ^ 31) (hk : k < np) : inB (nI k) 0 (nI np - 1) = true := by
  obtain ⟨q, rfl⟩ : ∃ q, np = q + 1 := ⟨np - 1, by omega⟩
  rw [nI_pred]
  have a1 : ¬ nI k < 0 := nI_pos (by omega)
  have a2 : ¬ nI q < nI k := nI_nlt (by omega) (by omega)
  simp [inB, a1, a2]
def firR (g tk : Nat → Int32) : Nat → Int32
  | 0 => -1
  | n + 1 => if g n = 0 then firR g tk n else if firR g tk n < 0 then nI n else if tk n < tk (firR g tk n).toNatClampNeg then nI n else firR g tk n
theorem firR_in (g tk : Nat → Int32) : ∀ n, n < 1000 → firR g tk n = -1 ∨ ∃ q, q < n ∧ firR g tk n = nI q := by
  intro n
  induction n with
  | zero => intro _; exact Or.inl rfl
  | succ n ih =>
    intro hn
    have ih := ih (by omega)
    have up : firR g tk n = -1 ∨ ∃ q, q < n + 1 ∧ firR g tk n = nI q := by
      rcases ih with e | ⟨q, hq, e⟩
      · exact Or.inl e
      · exact Or.inr ⟨q, by omega, e⟩
    simp only [firR]
    split
    · exact up
    · split
      · exact Or.inr ⟨n, by omega, rfl⟩
      · split
        · exact Or.inr ⟨n, by omega, rfl⟩
        · exact up
section M8
variable {σ : am_H} {Q : Option Value → am_H → Prop} {np : Nat}
theorem M_firstOf_loop (h : SH σ) (hp : gi σ 40 11 7 = nI np) (hnp : np ≤ 40) (pic : Int32) : ∀ j k, k + j = np → ax k_M_firstOf 9 [some (.ref 40), some (.int pic), some (.int (firR (ga σ 59) (ga σ 45) k)), some (.int (nI k))] [] σ Q = Q (some (.int (firR (ga σ 59) (ga σ 45) np))) σ := by
  intro j
  induction j with
  | zero =>
    intro k hk
    have hk : k = np := by omega
    subst hk
    have hc : ¬ nI k < nI k := Int32.lt_irrefl
    rw [s_M_firstOf_9]
    simp only [s_M_firstOf_0, s_M_firstOf_1, s_M_firstOf_2, s_M_firstOf_5, s_M_firstOf_6, s_M_firstOf_7, s_M_firstOf_8, s_M_firstOf_10, s_M_firstOf_11, s_M_firstOf_14, s_M_firstOf_17, s_M_firstOf_18, s_M_firstOf_21, s_M_firstOf_22, s_M_firstOf_23, s_M_firstOf_26, s_M_firstOf_27, s_M_firstOf_30, s_M_firstOf_31, s_M_firstOf_34, s_M_firstOf_35, s_M_firstOf_36, s_M_firstOf_37, s_M_firstOf_40, s_M_firstOf_41, s_M_firstOf_42, s_M_firstOf_45, s_M_firstOf_46, s_M_firstOf_47, s_M_firstOf_50, s_M_firstOf_53, s_M_firstOf_54, ↓reduceIte, Nat.reduceEqDiff, Nat.reduceLT, am_top, ax_f_some, ax_k_some, ax_k_none, s8_0, s8_1, s8_2, s8_3, s8_4, c2p_n, c2p_i, c2p_r, c2p_z, okvp_i, okvp_l, okvp_r, okvp_n, okvp_z, okvp_z0, okvp_z1, bi_narp, am_nar0p, am_nar1p, bi_0, bi_1, true_and, and_true, i_40_0 h, i_40_1 h, i_40_2 h, i_40_3 h, r_40_4 h, r_40_5 h, r_40_6 h, i_40_7 h, r_40_8 h, r_40_9 h, r_40_10 h, r_40_11 h, r_40_12 h, i_40_13 h, r_40_14 h, r_40_15 h, r_40_16 h, r_40_17 h, i_40_18 h, i_40_19 h, r_40_20 h, r_40_21 h, r_40_22 h, i_40_23 h, r_40_24 h, r_40_25 h, r_40_26 h, r_40_27 h, r_40_28 h, i_40_29 h, r_40_30 h, r_40_31 h, r_40_32 h, r_40_33 h, r_40_34 h, r_40_35 h, r_40_36 h, r_40_37 h, i_40_38 h, i_40_39 h, i_40_40 h, i_40_41 h, i_40_42 h, i_40_43 h, i_40_44 h, i_40_45 h, r_40_46 h, r_40_47 h, r_40_48 h, r_40_49 h, r_40_50 h, r_40_51 h, r_40_52 h, r_40_53 h, r_40_54 h, r_40_55 h, r_40_56 h, r_40_57 h, r_40_58 h, i_40_59 h, i_40_60 h, r_40_61 h, o_40 h, hp, hc]
  | succ j ih =>
    intro k hk
    have ih := ih (k + 1) (by omega)
    have hc : nI k < nI np := nI_lt (by omega) (by omega)
    have hix := ix_nI (show k < 40 by omega) (by omega)
    have hcl : (nI k).toNatClampNeg = k := nI_clamp (by omega)
    rw [s_M_firstOf_9]
    simp only [s_M_firstOf_0, s_M_firstOf_1, s_M_firstOf_2, s_M_firstOf_5, s_M_firstOf_6, s_M_firstOf_7, s_M_firstOf_8, s_M_firstOf_10, s_M_firstOf_11, s_M_firstOf_14, s_M_firstOf_17, s_M_firstOf_18, s_M_firstOf_21, s_M_firstOf_22, s_M_firstOf_23, s_M_firstOf_26, s_M_firstOf_27, s_M_firstOf_30, s_M_firstOf_31, s_M_firstOf_34, s_M_firstOf_35, s_M_firstOf_36, s_M_firstOf_37, s_M_firstOf_40, s_M_firstOf_41, s_M_firstOf_42, s_M_firstOf_45, s_M_firstOf_46, s_M_firstOf_47, s_M_firstOf_50, s_M_firstOf_53, s_M_firstOf_54, ↓reduceIte, Nat.reduceEqDiff, Nat.reduceLT, am_top, ax_f_some, ax_k_some, ax_k_none, s8_0, s8_1, s8_2, s8_3, s8_4, c2p_n, c2p_i, c2p_r, c2p_z, okvp_i, okvp_l, okvp_r, okvp_n, okvp_z, okvp_z0, okvp_z1, bi_narp, am_nar0p, am_nar1p, bi_0, bi_1, true_and, and_true, i_40_0 h, i_40_1 h, i_40_2 h, i_40_3 h, r_40_4 h, r_40_5 h, r_40_6 h, i_40_7 h, r_40_8 h, r_40_9 h, r_40_10 h, r_40_11 h, r_40_12 h, i_40_13 h, r_40_14 h, r_40_15 h, r_40_16 h, r_40_17 h, i_40_18 h, i_40_19 h, r_40_20 h, r_40_21 h, r_40_22 h, i_40_23 h, r_40_24 h, r_40_25 h, r_40_26 h, r_40_27 h, r_40_28 h, i_40_29 h, r_40_30 h, r_40_31 h, r_40_32 h, r_40_33 h, r_40_34 h, r_40_35 h, r_40_36 h, r_40_37 h, i_40_38 h, i_40_39 h, i_40_40 h, i_40_41 h, i_40_42 h, i_40_43 h, i_40_44 h, i_40_45 h, r_40_46 h, r_40_47 h, r_40_48 h, r_40_49 h, r_40_50 h, r_40_51 h, r_40_52 h, r_40_53 h, r_40_54 h, r_40_55 h, r_40_56 h, r_40_57 h, r_40_58 h, i_40_59 h, i_40_60 h, r_40_61 h, o_40 h, j_59 h, n_59 h, j_45 h, n_45 h, hp, hc, hix, hcl, true_or, nI_1]
    rw [← ih]
    by_cases c1 : ga σ 59 k = 0
    · simp only [firR, if_pos c1]
    · rcases firR_in (ga σ 59) (ga σ 45) k (by omega) with e | ⟨q, hq, e⟩
      · have e0 : (-1 : Int32) < 0 := by decide
        simp only [firR, if_neg c1, e, if_pos e0]
      · have e0 : ¬ nI q < 0 := nI_pos (by omega)
        have hix2 := ix_nI (show q < 40 by omega) (by omega)
        have hcl2 : (nI q).toNatClampNeg = q := nI_clamp (by omega)
        simp only [firR, if_neg c1, e, if_neg e0, hix2, hcl2, true_and]
        by_cases c3 : ga σ 45 k < ga σ 45 q
        · simp only [if_pos c3]
        · simp only [if_neg c3]
theorem M_firstOf (h : SH σ) (hp : gi σ 40 11 7 = nI np) (hnp : np ≤ 40) (pic : Int32) {n : Nat} {g : Nat → Int32} (hg : mSpr σ np n pic = some g) : ax k_M_firstOf 0 [some (.ref 40), some (.int pic), none, none] [] σ Q = Q (some (.int (firR g (ga σ 45) np))) (mSet σ g) := by
  have hs := SH_mSet h g
  have g1 : gi (mSet σ g) 40 11 7 = nI np := by rw [gi_set_ne (by decide)]; exact hp
  have g4 : ga (mSet σ g) 45 = ga σ 45 := ga_set_ne (by decide)
  have g5 : ga (mSet σ g) 59 = g := ga_set_eq
  have hl := M_firstOf_loop (Q := Q) hs g1 hnp pic np 0 (by omega)
  rw [g4, g5] at hl
  simp only [firR, nI_0] at hl
  simp only [s_M_firstOf_0, s_M_firstOf_1, s_M_firstOf_2, s_M_firstOf_5, s_M_firstOf_6, s_M_firstOf_7, s_M_firstOf_8, s_M_firstOf_10, s_M_firstOf_11, s_M_firstOf_14, s_M_firstOf_17, s_M_firstOf_18, s_M_firstOf_21, s_M_firstOf_22, s_M_firstOf_23, s_M_firstOf_26, s_M_firstOf_27, s_M_firstOf_30, s_M_firstOf_31, s_M_firstOf_34, s_M_firstOf_35, s_M_firstOf_36, s_M_firstOf_37, s_M_firstOf_40, s_M_firstOf_41, s_M_firstOf_42, s_M_firstOf_45, s_M_firstOf_46, s_M_firstOf_47, s_M_firstOf_50, s_M_firstOf_53, s_M_firstOf_54, ↓reduceIte, Nat.reduceEqDiff, Nat.reduceLT, am_top, ax_f_some, ax_k_some, ax_k_none, s8_0, s8_1, s8_2, s8_3, s8_4, c2p_n, c2p_i, c2p_r, c2p_z, okvp_i, okvp_l, okvp_r, okvp_n, okvp_z, okvp_z0, okvp_z1, bi_narp, am_nar0p, am_nar1p, bi_0, bi_1, true_and, and_true, i_40_0 h, i_40_1 h, i_40_2 h, i_40_3 h, r_40_4 h, r_40_5 h, r_40_6 h, i_40_7 h, r_40_8 h, r_40_9 h, r_40_10 h, r_40_11 h, r_40_12 h, i_40_13 h, r_40_14 h, r_40_15 h, r_40_16 h, r_40_17 h, i_40_18 h, i_40_19 h, r_40_20 h, r_40_21 h, r_40_22 h, i_40_23 h, r_40_24 h, r_40_25 h, r_40_26 h, r_40_27 h, r_40_28 h, i_40_29 h, r_40_30 h, r_40_31 h, r_40_32 h, r_40_33 h, r_40_34 h, r_40_35 h, r_40_36 h, r_40_37 h, i_40_38 h, i_40_39 h, i_40_40 h, i_40_41 h, i_40_42 h, i_40_43 h, i_40_44 h, i_40_45 h, r_40_46 h, r_40_47 h, r_40_48 h, r_40_49 h, r_40_50 h, r_40_51 h, r_40_52 h, r_40_53 h, r_40_54 h, r_40_55 h, r_40_56 h, r_40_57 h, r_40_58 h, i_40_59 h, i_40_60 h, r_40_61 h, o_40 h, M_spread h hp hnp pic hg]
  exact hl
theorem M_set_loop (h : SH σ) (hp : gi σ 40 11 7 = nI np) (hnp : np ≤ 40) (pic w f : Int32) : ∀ j k, k + j = np → ax k_M_set 37 [some (.ref 40), some (.int pic), some (.int w), some (.int f), some (.int (nI (cntF (fun i => !decide (ga σ 59 i = 0)) k))), some (.int (nI k))] [] σ Q = Q (some (.int (nI (cntF (fun i => !decide (ga σ 59 i = 0)) np)))) σ := by
  intro j
  induction j with
  | zero =>
    intro k hk
    have hk : k = np := by omega
    subst hk
    have hc : ¬ nI k < nI k := Int32.lt_irrefl
    rw [s_M_set_37]
    simp only [s_M_set_0, s_M_set_1, s_M_set_2, s_M_set_5, s_M_set_8, s_M_set_9, s_M_set_10, s_M_set_11, s_M_set_14, s_M_set_17, s_M_set_18, s_M_set_19, s_M_set_20, s_M_set_21, s_M_set_24, s_M_set_25, s_M_set_26, s_M_set_29, s_M_set_30, s_M_set_31, s_M_set_32, s_M_set_34, s_M_set_35, s_M_set_39, s_M_set_40, s_M_set_43, s_M_set_46, s_M_set_48, s_M_set_49, s_M_set_52, s_M_set_54, s_M_set_55, s_M_set_58, s_M_set_59, s_M_set_62, s_M_set_63, s_M_set_64, s_M_set_66, s_M_set_69, s_M_set_72, s_M_set_74, ↓reduceIte, Nat.reduceEqDiff, Nat.reduceLT, am_top, ax_f_some, ax_k_some, ax_k_none, s8_0, s8_1, s8_2, s8_3, s8_4, c2p_n, c2p_i, c2p_r, c2p_z, okvp_i, okvp_l, okvp_r, okvp_n, okvp_z, okvp_z0, okvp_z1, bi_narp, am_nar0p, am_nar1p, bi_0, bi_1, true_and, and_true, i_40_0 h, i_40_1 h, i_40_2 h, i_40_3 h, r_40_4 h, r_40_5 h, r_40_6 h, i_40_7 h, r_40_8 h, r_40_9 h, r_40_10 h, r_40_11 h, r_40_12 h, i_40_13 h, r_40_14 h, r_40_15 h, r_40_16 h, r_40_17 h, i_40_18 h, i_40_19 h, r_40_20 h, r_40_21 h, r_40_22 h, i_40_23 h, r_40_24 h, r_40_25 h, r_40_26 h, r_40_27 h, r_40_28 h, i_40_29 h, r_40_30 h, r_40_31 h, r_40_32 h, r_40_33 h, r_40_34 h, r_40_35 h, r_40_36 h, r_40_37 h, i_40_38 h, i_40_39 h, i_40_40 h, i_40_41 h, i_40_42 h, i_40_43 h, i_40_44 h, i_40_45 h, r_40_46 h, r_40_47 h, r_40_48 h, r_40_49 h, r_40_50 h, r_40_51 h, r_40_52 h, r_40_53 h, r_40_54 h, r_40_55 h, r_40_56 h, r_40_57 h, r_40_58 h, i_40_59 h, i_40_60 h, r_40_61 h, o_40 h, hp, hc]
  | succ j ih =>
    intro k hk
    have ih := ih (k + 1) (by omega)
    have hc : nI k < nI np := nI_lt (by omega) (by omega)
    have hix := ix_nI (show k < 40 by omega) (by omega)
    have hcl : (nI k).toNatClampNeg = k := nI_clamp (by omega)
    rw [s_M_set_37]
    simp only [s_M_set_0, s_M_set_1, s_M_set_2, s_M_set_5, s_M_set_8, s_M_set_9, s_M_set_10, s_M_set_11, s_M_set_14, s_M_set_17, s_M_set_18, s_M_set_19, s_M_set_20, s_M_set_21, s_M_set_24, s_M_set_25, s_M_set_26, s_M_set_29, s_M_set_30, s_M_set_31, s_M_set_32, s_M_set_34, s_M_set_35, s_M_set_39, s_M_set_40, s_M_set_43, s_M_set_46, s_M_set_48, s_M_set_49, s_M_set_52, s_M_set_54, s_M_set_55, s_M_set_58, s_M_set_59, s_M_set_62, s_M_set_63, s_M_set_64, s_M_set_66, s_M_set_69, s_M_set_72, s_M_set_74, ↓reduceIte, Nat.reduceEqDiff, Nat.reduceLT, am_top, ax_f_some, ax_k_some, ax_k_none, s8_0, s8_1, s8_2, s8_3, s8_4, c2p_n, c2p_i, c2p_r, c2p_z, okvp_i, okvp_l, okvp_r, okvp_n, okvp_z, okvp_z0, okvp_z1, bi_narp, am_nar0p, am_nar1p, bi_0, bi_1, true_and, and_true, i_40_0 h, i_40_1 h, i_40_2 h, i_40_3 h, r_40_4 h, r_40_5 h, r_40_6 h, i_40_7 h, r_40_8 h, r_40_9 h, r_40_10 h, r_40_11 h, r_40_12 h, i_40_13 h, r_40_14 h, r_40_15 h, r_40_16 h, r_40_17 h, i_40_18 h, i_40_19 h, r_40_20 h, r_40_21 h, r_40_22 h, i_40_23 h, r_40_24 h, r_40_25 h, r_40_26 h, r_40_27 h, r_40_28 h, i_40_29 h, r_40_30 h, r_40_31 h, r_40_32 h, r_40_33 h, r_40_34 h, r_40_35 h, r_40_36 h, r_40_37 h, i_40_38 h, i_40_39 h, i_40_40 h, i_40_41 h, i_40_42 h, i_40_43 h, i_40_44 h, i_40_45 h, r_40_46 h, r_40_47 h, r_40_48 h, r_40_49 h, r_40_50 h, r_40_51 h, r_40_52 h, r_40_53 h, r_40_54 h, r_40_55 h, r_40_56 h, r_40_57 h, r_40_58 h, i_40_59 h, i_40_60 h, r_40_61 h, o_40 h, j_59 h, n_59 h, hp, hc, hix, hcl, true_or, nI_1]
    rw [← ih]
    by_cases c1 : ga σ 59 k = 0
    · simp [cntF, c1]
    · simp [cntF, c1, nI_1]
theorem M_set (h : SH σ) (hp : gi σ 40 11 7 = nI np) (hnp : np ≤ 40) (pic w : Int32) {n : Nat} {g : Nat → Int32} (hg : inB pic 0 (nI np - 1) = true → mSpr σ np n pic = some g) : ax k_M_set 0 [some (.ref 40), some (.int pic), some (.int w), none, none, none] [] σ Q = (if inB pic 0 (nI np - 1) = true ∧ inB w 0 1 = true then Q (some (.int (if w = 0 then firR g (ga σ 45) np else nI (cntF (fun i => !decide (g i = 0)) np)))) (mSet σ g) else Q (some (.int (-1))) σ) := by
  by_cases c1 : inB pic 0 (nI np - 1) = true
  · have hs := SH_mSet h g
    have g1 : gi (mSet σ g) 40 11 7 = nI np := by rw [gi_set_ne (by decide)]; exact hp
    have g5 : ga (mSet σ g) 59 = g := ga_set_eq
    have hl := fun f => M_set_loop (Q := Q) hs g1 hnp pic w f np 0 (by omega)
    rw [g5] at hl
    simp only [cntF, nI_0] at hl
    simp only [s_M_set_0, s_M_set_1, s_M_set_2, s_M_set_5, s_M_set_8, s_M_set_9, s_M_set_10, s_M_set_11, s_M_set_14, s_M_set_17, s_M_set_18, s_M_set_19, s_M_set_20, s_M_set_21, s_M_set_24, s_M_set_25, s_M_set_26, s_M_set_29, s_M_set_30, s_M_set_31, s_M_set_32, s_M_set_34, s_M_set_35, s_M_set_39, s_M_set_40, s_M_set_43, s_M_set_46, s_M_set_48, s_M_set_49, s_M_set_52, s_M_set_54, s_M_set_55, s_M_set_58, s_M_set_59, s_M_set_62, s_M_set_63, s_M_set_64, s_M_set_66, s_M_set_69, s_M_set_72, s_M_set_74, ↓reduceIte, Nat.reduceEqDiff, Nat.reduceLT, am_top, ax_f_some, ax_k_some, ax_k_none, s8_0, s8_1, s8_2, s8_3, s8_4, c2p_n, c2p_i, c2p_r, c2p_z, okvp_i, okvp_l, okvp_r, okvp_n, okvp_z, okvp_z0, okvp_z1, bi_narp, am_nar0p, am_nar1p, bi_0, bi_1, true_and, and_true, i_40_0 h, i_40_1 h, i_40_2 h, i_40_3 h, r_40_4 h, r_40_5 h, r_40_6 h, i_40_7 h, r_40_8 h, r_40_9 h, r_40_10 h, r_40_11 h, r_40_12 h, i_40_13 h, r_40_14 h, r_40_15 h, r_40_16 h, r_40_17 h, i_40_18 h, i_40_19 h, r_40_20 h, r_40_21 h, r_40_22 h, i_40_23 h, r_40_24 h, r_40_25 h, r_40_26 h, r_40_27 h, r_40_28 h, i_40_29 h, r_40_30 h, r_40_31 h, r_40_32 h, r_40_33 h, r_40_34 h, r_40_35 h, r_40_36 h, r_40_37 h, i_40_38 h, i_40_39 h, i_40_40 h, i_40_41 h, i_40_42 h, i_40_43 h, i_40_44 h, i_40_45 h, r_40_46 h, r_40_47 h, r_40_48 h, r_40_49 h, r_40_50 h, r_40_51 h, r_40_52 h, r_40_53 h, r_40_54 h, r_40_55 h, r_40_56 h, r_40_57 h, r_40_58 h, i_40_59 h, i_40_60 h, r_40_61 h, o_40 h, M_isPicture 40 _ _ (i_40_7 h), M_isIn, hp, c1, M_firstOf h hp hnp pic (hg c1), hl, Bool.true_eq_false]
    by_cases c2 : inB w 0 1 = true <;> by_cases c3 : w = 0 <;> simp [c2, c3]
  · have c1' : inB pic 0 (nI np - 1) = false := by simpa using c1
    simp only [s_M_set_0, s_M_set_1, s_M_set_2, s_M_set_5, s_M_set_8, s_M_set_9, s_M_set_10, s_M_set_11, s_M_set_14, s_M_set_17, s_M_set_18, s_M_set_19, s_M_set_20, s_M_set_21, s_M_set_24, s_M_set_25, s_M_set_26, s_M_set_29, s_M_set_30, s_M_set_31, s_M_set_32, s_M_set_34, s_M_set_35, s_M_set_39, s_M_set_40, s_M_set_43, s_M_set_46, s_M_set_48, s_M_set_49, s_M_set_52, s_M_set_54, s_M_set_55, s_M_set_58, s_M_set_59, s_M_set_62, s_M_set_63, s_M_set_64, s_M_set_66, s_M_set_69, s_M_set_72, s_M_set_74, ↓reduceIte, Nat.reduceEqDiff, Nat.reduceLT, am_top, ax_f_some, ax_k_some, ax_k_none, s8_0, s8_1, s8_2, s8_3, s8_4, c2p_n, c2p_i, c2p_r, c2p_z, okvp_i, okvp_l, okvp_r, okvp_n, okvp_z, okvp_z0, okvp_z1, bi_narp, am_nar0p, am_nar1p, bi_0, bi_1, true_and, and_true, i_40_0 h, i_40_1 h, i_40_2 h, i_40_3 h, r_40_4 h, r_40_5 h, r_40_6 h, i_40_7 h, r_40_8 h, r_40_9 h, r_40_10 h, r_40_11 h, r_40_12 h, i_40_13 h, r_40_14 h, r_40_15 h, r_40_16 h, r_40_17 h, i_40_18 h, i_40_19 h, r_40_20 h, r_40_21 h, r_40_22 h, i_40_23 h, r_40_24 h, r_40_25 h, r_40_26 h, r_40_27 h, r_40_28 h, i_40_29 h, r_40_30 h, r_40_31 h, r_40_32 h, r_40_33 h, r_40_34 h, r_40_35 h, r_40_36 h, r_40_37 h, i_40_38 h, i_40_39 h, i_40_40 h, i_40_41 h, i_40_42 h, i_40_43 h, i_40_44 h, i_40_45 h, r_40_46 h, r_40_47 h, r_40_48 h, r_40_49 h, r_40_50 h, r_40_51 h, r_40_52 h, r_40_53 h, r_40_54 h, r_40_55 h, r_40_56 h, r_40_57 h, r_40_58 h, i_40_59 h, i_40_60 h, r_40_61 h, o_40 h, M_isPicture 40 _ _ (i_40_7 h), M_isIn, hp, c1', Bool.false_eq_true, false_and]
theorem M_strike (h : SH σ) {ns : Nat} (hn : gi σ 40 11 45 = nI ns) (hns : ns ≤ 60) (x : Int32) : ax k_M_strike 0 [some (.ref 40), some (.int x)] [] σ Q = (if inB x 0 (nI ns - 1) = true ∧ ga σ 79 x.toNatClampNeg = 0 then Q (some (.int 1)) (am_set σ 79 (am_ia 1 60 (upd (ga σ 79) x.toNatClampNeg 1))) else Q (some (.int 0)) σ) := by
  by_cases c1 : inB x 0 (nI ns - 1) = true
  · have hx : am_ix x 60 = True := by
      obtain ⟨j, hj, rfl⟩ := inB_ix hns (by omega) c1
      exact ix_nI (by omega) (by omega)
    simp only [s_M_strike_0, s_M_strike_1, s_M_strike_2, s_M_strike_3, s_M_strike_6, s_M_strike_7, s_M_strike_8, s_M_strike_11, s_M_strike_14, s_M_strike_15, s_M_strike_18, s_M_strike_19, s_M_strike_20, s_M_strike_23, s_M_strike_24, s_M_strike_25, s_M_strike_26, s_M_strike_29, s_M_strike_30, s_M_strike_31, s_M_strike_32, s_M_strike_33, ↓reduceIte, Nat.reduceEqDiff, Nat.reduceLT, am_top, ax_f_some, ax_k_some, ax_k_none, s8_0, s8_1, s8_2, s8_3, s8_4, c2p_n, c2p_i, c2p_r, c2p_z, okvp_i, okvp_l, okvp_r, okvp_n, okvp_z, okvp_z0, okvp_z1, bi_narp, am_nar0p, am_nar1p, bi_0, bi_1, true_and, and_true, i_40_0 h, i_40_1 h, i_40_2 h, i_40_3 h, r_40_4 h, r_40_5 h, r_40_6 h, i_40_7 h, r_40_8 h, r_40_9 h, r_40_10 h, r_40_11 h, r_40_12 h, i_40_13 h, r_40_14 h, r_40_15 h, r_40_16 h, r_40_17 h, i_40_18 h, i_40_19 h, r_40_20 h, r_40_21 h, r_40_22 h, i_40_23 h, r_40_24 h, r_40_25 h, r_40_26 h, r_40_27 h, r_40_28 h, i_40_29 h, r_40_30 h, r_40_31 h, r_40_32 h, r_40_33 h, r_40_34 h, r_40_35 h, r_40_36 h, r_40_37 h, i_40_38 h, i_40_39 h, i_40_40 h, i_40_41 h, i_40_42 h, i_40_43 h, i_40_44 h, i_40_45 h, r_40_46 h, r_40_47 h, r_40_48 h, r_40_49 h, r_40_50 h, r_40_51 h, r_40_52 h, r_40_53 h, r_40_54 h, r_40_55 h, r_40_56 h, r_40_57 h, r_40_58 h, i_40_59 h, i_40_60 h, r_40_61 h, o_40 h, j_79 h, n_79 h, M_isIn, hn, c1, hx, Bool.true_eq_false, true_or, or_true]
  · have c1' : inB x 0 (nI ns - 1) = false := by simpa using c1
    simp only [s_M_strike_0, s_M_strike_1, s_M_strike_2, s_M_strike_3, s_M_strike_6, s_M_strike_7, s_M_strike_8, s_M_strike_11, s_M_strike_14, s_M_strike_15, s_M_strike_18, s_M_strike_19, s_M_strike_20, s_M_strike_23, s_M_strike_24, s_M_strike_25, s_M_strike_26, s_M_strike_29, s_M_strike_30, s_M_strike_31, s_M_strike_32, s_M_strike_33, ↓reduceIte, Nat.reduceEqDiff, Nat.reduceLT, am_top, ax_f_some, ax_k_some, ax_k_none, s8_0, s8_1, s8_2, s8_3, s8_4, c2p_n, c2p_i, c2p_r, c2p_z, okvp_i, okvp_l, okvp_r, okvp_n, okvp_z, okvp_z0, okvp_z1, bi_narp, am_nar0p, am_nar1p, bi_0, bi_1, true_and, and_true, i_40_0 h, i_40_1 h, i_40_2 h, i_40_3 h, r_40_4 h, r_40_5 h, r_40_6 h, i_40_7 h, r_40_8 h, r_40_9 h, r_40_10 h, r_40_11 h, r_40_12 h, i_40_13 h, r_40_14 h, r_40_15 h, r_40_16 h, r_40_17 h, i_40_18 h, i_40_19 h, r_40_20 h, r_40_21 h, r_40_22 h, i_40_23 h, r_40_24 h, r_40_25 h, r_40_26 h, r_40_27 h, r_40_28 h, i_40_29 h, r_40_30 h, r_40_31 h, r_40_32 h, r_40_33 h, r_40_34 h, r_40_35 h, r_40_36 h, r_40_37 h, i_40_38 h, i_40_39 h, i_40_40 h, i_40_41 h, i_40_42 h, i_40_43 h, i_40_44 h, i_40_45 h, r_40_46 h, r_40_47 h, r_40_48 h, r_40_49 h, r_40_50 h, r_40_51 h, r_40_52 h, r_40_53 h, r_40_54 h, r_40_55 h, r_40_56 h, r_40_57 h, r_40_58 h, i_40_59 h, i_40_60 h, r_40_61 h, o_40 h, j_79 h, n_79 h, M_isIn, hn, c1', Bool.false_eq_true, false_and]
def mClaim (σ : am_H) (n : Nat) : Nat := cntF (fun i => decide (ga σ 82 i < 0)) n
theorem M_about_loop (h : SH σ) (hn : gi σ 40 11 60 = nI np) (hnp : np ≤ 60) (w : Int32) (A : Prop) (hA : ax k_M_about 35 [some (.ref 40), some (.int w), some (.int (nI (mClaim σ np))), some (.int (nI np))] [] σ Q = A) : ∀ j k, k + j = np → ax k_M_about 4 [some (.ref 40), some (.int w), some (.int (nI (mClaim σ k))), some (.int (nI k))] [] σ Q = A := by
  intro j
  induction j with
  | zero =>
    intro k hk
    have hk : k = np := by omega
    subst hk
    have hc : ¬ nI k < nI k := Int32.lt_irrefl
    rw [s_M_about_4]
    simp only [s_M_about_0, s_M_about_1, s_M_about_2, s_M_about_3, s_M_about_5, s_M_about_6, s_M_about_9, s_M_about_12, s_M_about_13, s_M_about_14, s_M_about_17, s_M_about_18, s_M_about_19, s_M_about_22, s_M_about_23, s_M_about_26, s_M_about_27, s_M_about_28, s_M_about_29, s_M_about_32, s_M_about_36, s_M_about_88, s_M_about_89, s_M_about_92, s_M_about_93, s_M_about_94, s_M_about_97, s_M_about_98, s_M_about_99, s_M_about_102, s_M_about_103, s_M_about_104, s_M_about_107, s_M_about_108, s_M_about_109, s_M_about_112, s_M_about_113, s_M_about_114, s_M_about_115, s_M_about_116, s_M_about_119, s_M_about_120, s_M_about_121, s_M_about_124, s_M_about_125, s_M_about_126, s_M_about_129, s_M_about_130, s_M_about_131, ↓reduceIte, Nat.reduceEqDiff, Nat.reduceLT, am_top, ax_f_some, ax_k_some, ax_k_none, s8_0, s8_1, s8_2, s8_3, s8_4, c2p_n, c2p_i, c2p_r, c2p_z, okvp_i, okvp_l, okvp_r, okvp_n, okvp_z, okvp_z0, okvp_z1, bi_narp, am_nar0p, am_nar1p, bi_0, bi_1, true_and, and_true, i_40_0 h, i_40_1 h, i_40_2 h, i_40_3 h, r_40_4 h, r_40_5 h, r_40_6 h, i_40_7 h, r_40_8 h, r_40_9 h, r_40_10 h, r_40_11 h, r_40_12 h, i_40_13 h, r_40_14 h, r_40_15 h, r_40_16 h, r_40_17 h, i_40_18 h, i_40_19 h, r_40_20 h, r_40_21 h, r_40_22 h, i_40_23 h, r_40_24 h, r_40_25 h, r_40_26 h, r_40_27 h, r_40_28 h, i_40_29 h, r_40_30 h, r_40_31 h, r_40_32 h, r_40_33 h, r_40_34 h, r_40_35 h, r_40_36 h, r_40_37 h, i_40_38 h, i_40_39 h, i_40_40 h, i_40_41 h, i_40_42 h, i_40_43 h, i_40_44 h, i_40_45 h, r_40_46 h, r_40_47 h, r_40_48 h, r_40_49 h, r_40_50 h, r_40_51 h, r_40_52 h, r_40_53 h, r_40_54 h, r_40_55 h, r_40_56 h, r_40_57 h, r_40_58 h, i_40_59 h, i_40_60 h, r_40_61 h, o_40 h, hn, hc]
    exact hA
  | succ j ih =>
    intro k hk
    have ih := ih (k + 1) (by omega)
    have hc : nI k < nI np := nI_lt (by omega) (by omega)
    have hix := ix_nI (show k < 60 by omega) (by omega)
    have hcl : (nI k).toNatClampNeg = k := nI_clamp (by omega)
    rw [s_M_about_4]
    simp only [s_M_about_0, s_M_about_1, s_M_about_2, s_M_about_3, s_M_about_5, s_M_about_6, s_M_about_9, s_M_about_12, s_M_about_13, s_M_about_14, s_M_about_17, s_M_about_18, s_M_about_19, s_M_about_22, s_M_about_23, s_M_about_26, s_M_about_27, s_M_about_28, s_M_about_29, s_M_about_32, s_M_about_36, s_M_about_88, s_M_about_89, s_M_about_92, s_M_about_93, s_M_about_94, s_M_about_97, s_M_about_98, s_M_about_99, s_M_about_102, s_M_about_103, s_M_about_104, s_M_about_107, s_M_about_108, s_M_about_109, s_M_about_112, s_M_about_113, s_M_about_114, s_M_about_115, s_M_about_116, s_M_about_119, s_M_about_120, s_M_about_121, s_M_about_124, s_M_about_125, s_M_about_126, s_M_about_129, s_M_about_130, s_M_about_131, ↓reduceIte, Nat.reduceEqDiff, Nat.reduceLT, am_top, ax_f_some, ax_k_some, ax_k_none, s8_0, s8_1, s8_2, s8_3, s8_4, c2p_n, c2p_i, c2p_r, c2p_z, okvp_i, okvp_l, okvp_r, okvp_n, okvp_z, okvp_z0, okvp_z1, bi_narp, am_nar0p, am_nar1p, bi_0, bi_1, true_and, and_true, i_40_0 h, i_40_1 h, i_40_2 h, i_40_3 h, r_40_4 h, r_40_5 h, r_40_6 h, i_40_7 h, r_40_8 h, r_40_9 h, r_40_10 h, r_40_11 h, r_40_12 h, i_40_13 h, r_40_14 h, r_40_15 h, r_40_16 h, r_40_17 h, i_40_18 h, i_40_19 h, r_40_20 h, r_40_21 h, r_40_22 h, i_40_23 h, r_40_24 h, r_40_25 h, r_40_26 h, r_40_27 h, r_40_28 h, i_40_29 h, r_40_30 h, r_40_31 h, r_40_32 h, r_40_33 h, r_40_34 h, r_40_35 h, r_40_36 h, r_40_37 h, i_40_38 h, i_40_39 h, i_40_40 h, i_40_41 h, i_40_42 h, i_40_43 h, i_40_44 h, i_40_45 h, r_40_46 h, r_40_47 h, r_40_48 h, r_40_49 h, r_40_50 h, r_40_51 h, r_40_52 h, r_40_53 h, r_40_54 h, r_40_55 h, r_40_56 h, r_40_57 h, r_40_58 h, i_40_59 h, i_40_60 h, r_40_61 h, o_40 h, j_82 h, n_82 h, hn, hc, hix, hcl, nI_1]
    rw [← ih]
    by_cases c1 : ga σ 82 k < 0
    · simp [mClaim, cntF, c1, nI_1]
    · simp [mClaim, cntF, c1]
end M8
