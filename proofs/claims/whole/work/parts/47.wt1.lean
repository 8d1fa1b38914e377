/-! THE CLASS, 7: the tree of words -/
def rc1 (f made madeIn : Nat → Int32) (m : Int32) : Nat → Nat → Int32
  | 0 => f
  | n + 1 => upd (rc1 f made madeIn m n) n (if m < made n then -1 else madeIn n)
def rc2 (n : Nat) (f ft fv : Nat → Int32) : Nat → Nat → Int32
  | 0 => f
  | i + 1 => if ltB (ft i) (nI n) = true then upd (rc2 n f ft fv i) (ft i).toNatClampNeg (fv i) else rc2 n f ft fv i
abbrev aPar (σ : am_H) (f : Nat → Int32) : am_H := am_set σ 4 (am_ia 0 40 f)
def rcF (σ : am_H) (n nt : Nat) (m : Int32) : Nat → Int32 := rc2 n (rc1 (ga σ 4) (ga σ 2) (ga σ 3) m n) (ga σ 7) (ga σ 8) (tolR (ga σ 6) m nt 0)
theorem tolR_le (fm : Nat → Int32) (m : Int32) : ∀ c k, k ≤ tolR fm m c k ∧ tolR fm m c k ≤ k + c := by
  intro c
  induction c with
  | zero => intro k; exact ⟨Nat.le_refl _, Nat.le_refl _⟩
  | succ c ih =>
    intro k
    simp only [tolR]
    split
    · exact ⟨Nat.le_refl _, by omega⟩
    · have := ih (k + 1)
      omega
theorem SH_aPar {σ : am_H} (h : SH σ) (f : Nat → Int32) : SH (aPar σ f) := SH_set_j h (by decide) (by decide) (by decide) (by decide) (by decide)
theorem ltB_nI {c n : Nat} (hc : c < n) (hn : n < 2 ^ 31) : ltB (nI c) (nI n) = true := by
  have a1 : ¬ nI c < 0 := nI_pos (by omega)
  have a2 : nI c < nI n := nI_lt hc (by omega)
  simp [ltB, a1, a2]
theorem ltB_ix {n : Nat} {x : Int32} (hn : n < 2 ^ 31) (h : ltB x (nI n) = true) : ∃ j, j < n ∧ x = nI j := by
  simp only [ltB, Bool.and_eq_true, Bool.not_eq_true', decide_eq_false_iff_not, decide_eq_true_eq] at h
  obtain ⟨j, hj, rfl⟩ := nI_of h.1
  refine ⟨j, ?_, rfl⟩
  exact Nat.lt_of_not_le fun z => nI_nlt z hj h.2
def clR (f : Nat → Int32) (n : Nat) : Nat → Int32 → Int64 → Int64
  | 0, _, c => c
  | s + 1, x, c => if ltB x (nI n) = true then clR f n s (f x.toNatClampNeg) (c ||| ((1 : Int64) <<< (x.toInt64 &&& 63))) else c
def treR (f : Nat → Int32) (n : Nat) (w : Int32) : Nat → Int64
  | 0 => 0
  | b + 1 => if hldB (clR f n 40 (nI b) 0) w = true then treR f n w b ||| ((1 : Int64) <<< ((nI b).toInt64 &&& 63)) else treR f n w b
section A7
variable {σ : am_H} {Q : Option Value → am_H → Prop} {n nt : Nat}
theorem T_recall_1 (h : SH σ) (hn : gi σ 1 9 4 = nI n) (hle : n ≤ 40) (m : Int32) (A : Prop) (hA : ax k_WordTree_recall 42 [some (.ref 1), some (.int m), some (.int (nI n)), none, none] [] (aPar σ (rc1 (ga σ 4) (ga σ 2) (ga σ 3) m n)) Q = A) : ∀ j k, k + j = n → ax k_WordTree_recall 2 [some (.ref 1), some (.int m), some (.int (nI k)), none, none] [] (aPar σ (rc1 (ga σ 4) (ga σ 2) (ga σ 3) m k)) Q = A := by
  intro j
  induction j with
  | zero =>
    intro k hk
    have hk : k = n := by omega
    subst hk
    have hs := SH_aPar h (rc1 (ga σ 4) (ga σ 2) (ga σ 3) m k)
    have g1 : gi (aPar σ (rc1 (ga σ 4) (ga σ 2) (ga σ 3) m k)) 1 9 4 = nI k := by rw [gi_set_ne (by decide)]; exact hn
    have hc : ¬ nI k < nI k := Int32.lt_irrefl
    rw [s_WordTree_recall_2]
    simp only [s_WordTree_recall_0, s_WordTree_recall_1, s_WordTree_recall_3, s_WordTree_recall_4, s_WordTree_recall_7, s_WordTree_recall_10, s_WordTree_recall_11, s_WordTree_recall_14, s_WordTree_recall_15, s_WordTree_recall_16, s_WordTree_recall_17, s_WordTree_recall_20, s_WordTree_recall_21, s_WordTree_recall_22, s_WordTree_recall_25, s_WordTree_recall_26, s_WordTree_recall_29, s_WordTree_recall_30, s_WordTree_recall_33, s_WordTree_recall_34, s_WordTree_recall_35, s_WordTree_recall_36, s_WordTree_recall_39, s_WordTree_recall_43, s_WordTree_recall_46, s_WordTree_recall_47, s_WordTree_recall_50, s_WordTree_recall_51, s_WordTree_recall_52, s_WordTree_recall_54, s_WordTree_recall_55, s_WordTree_recall_58, s_WordTree_recall_59, s_WordTree_recall_62, s_WordTree_recall_63, s_WordTree_recall_66, s_WordTree_recall_68, s_WordTree_recall_69, s_WordTree_recall_71, s_WordTree_recall_74, s_WordTree_recall_77, s_WordTree_recall_78, s_WordTree_recall_81, s_WordTree_recall_83, s_WordTree_recall_84, s_WordTree_recall_87, s_WordTree_recall_88, s_WordTree_recall_91, s_WordTree_recall_92, s_WordTree_recall_95, s_WordTree_recall_98, ↓reduceIte, Nat.reduceEqDiff, Nat.reduceLT, am_top, ax_f_some, ax_k_some, ax_k_none, s8_0, s8_1, s8_2, s8_3, s8_4, c2p_n, c2p_i, c2p_r, c2p_z, okvp_i, okvp_l, okvp_r, okvp_n, okvp_z, okvp_z0, okvp_z1, bi_narp, am_nar0p, am_nar1p, bi_0, bi_1, true_and, and_true, r_1_0 hs, r_1_1 hs, r_1_2 hs, r_1_3 hs, i_1_4 hs, o_1 hs, g1, hc]
    exact hA
  | succ j ih =>
    intro k hk
    have ih := ih (k + 1) (by omega)
    have hs := SH_aPar h (rc1 (ga σ 4) (ga σ 2) (ga σ 3) m k)
    have g1 : gi (aPar σ (rc1 (ga σ 4) (ga σ 2) (ga σ 3) m k)) 1 9 4 = nI n := by rw [gi_set_ne (by decide)]; exact hn
    have g2 : ga (aPar σ (rc1 (ga σ 4) (ga σ 2) (ga σ 3) m k)) 2 = ga σ 2 := ga_set_ne (by decide)
    have g3 : ga (aPar σ (rc1 (ga σ 4) (ga σ 2) (ga σ 3) m k)) 3 = ga σ 3 := ga_set_ne (by decide)
    have g4 : ga (aPar σ (rc1 (ga σ 4) (ga σ 2) (ga σ 3) m k)) 4 = rc1 (ga σ 4) (ga σ 2) (ga σ 3) m k := ga_set_eq
    have hc : nI k < nI n := nI_lt (by omega) (by omega)
    have hix := ix_nI (show k < 40 by omega) (by omega)
    have hcl : (nI k).toNatClampNeg = k := nI_clamp (by omega)
    rw [s_WordTree_recall_2]
    simp only [s_WordTree_recall_0, s_WordTree_recall_1, s_WordTree_recall_3, s_WordTree_recall_4, s_WordTree_recall_7, s_WordTree_recall_10, s_WordTree_recall_11, s_WordTree_recall_14, s_WordTree_recall_15, s_WordTree_recall_16, s_WordTree_recall_17, s_WordTree_recall_20, s_WordTree_recall_21, s_WordTree_recall_22, s_WordTree_recall_25, s_WordTree_recall_26, s_WordTree_recall_29, s_WordTree_recall_30, s_WordTree_recall_33, s_WordTree_recall_34, s_WordTree_recall_35, s_WordTree_recall_36, s_WordTree_recall_39, s_WordTree_recall_43, s_WordTree_recall_46, s_WordTree_recall_47, s_WordTree_recall_50, s_WordTree_recall_51, s_WordTree_recall_52, s_WordTree_recall_54, s_WordTree_recall_55, s_WordTree_recall_58, s_WordTree_recall_59, s_WordTree_recall_62, s_WordTree_recall_63, s_WordTree_recall_66, s_WordTree_recall_68, s_WordTree_recall_69, s_WordTree_recall_71, s_WordTree_recall_74, s_WordTree_recall_77, s_WordTree_recall_78, s_WordTree_recall_81, s_WordTree_recall_83, s_WordTree_recall_84, s_WordTree_recall_87, s_WordTree_recall_88, s_WordTree_recall_91, s_WordTree_recall_92, s_WordTree_recall_95, s_WordTree_recall_98, ↓reduceIte, Nat.reduceEqDiff, Nat.reduceLT, am_top, ax_f_some, ax_k_some, ax_k_none, s8_0, s8_1, s8_2, s8_3, s8_4, c2p_n, c2p_i, c2p_r, c2p_z, okvp_i, okvp_l, okvp_r, okvp_n, okvp_z, okvp_z0, okvp_z1, bi_narp, am_nar0p, am_nar1p, bi_0, bi_1, true_and, and_true, r_1_0 hs, r_1_1 hs, r_1_2 hs, r_1_3 hs, i_1_4 hs, o_1 hs, j_2 hs, n_2 hs, j_3 hs, n_3 hs, j_4 hs, n_4 hs, g1, g2, g3, g4, hc, hix, hcl, nI_1, set_set]
    rw [← ih]
    by_cases c : m < ga σ 2 k
    · simp only [rc1, if_pos c]
    · simp only [rc1, if_neg c]
theorem T_recall_2 (h : SH σ) (hn : gi σ 1 9 4 = nI n) (hle : n ≤ 40) (ht : gi σ 5 3 3 = nI nt) (hnt : nt ≤ 100) (m : Int32) (f : Nat → Int32) {tl : Nat} (htl : tl ≤ nt) : ∀ j k, k + j = tl → ∀ z : Option Value, ax k_WordTree_recall 53 [some (.ref 1), some (.int m), some (.int (nI tl)), some (.int (nI k)), z] [] (aPar σ (rc2 n f (ga σ 7) (ga σ 8) k)) Q = Q none (aPar σ (rc2 n f (ga σ 7) (ga σ 8) tl)) := by
  intro j
  induction j with
  | zero =>
    intro k hk z
    have hk : k = tl := by omega
    subst hk
    have hc : ¬ nI k < nI k := Int32.lt_irrefl
    rw [s_WordTree_recall_53]
    simp only [s_WordTree_recall_0, s_WordTree_recall_1, s_WordTree_recall_3, s_WordTree_recall_4, s_WordTree_recall_7, s_WordTree_recall_10, s_WordTree_recall_11, s_WordTree_recall_14, s_WordTree_recall_15, s_WordTree_recall_16, s_WordTree_recall_17, s_WordTree_recall_20, s_WordTree_recall_21, s_WordTree_recall_22, s_WordTree_recall_25, s_WordTree_recall_26, s_WordTree_recall_29, s_WordTree_recall_30, s_WordTree_recall_33, s_WordTree_recall_34, s_WordTree_recall_35, s_WordTree_recall_36, s_WordTree_recall_39, s_WordTree_recall_42, s_WordTree_recall_43, s_WordTree_recall_46, s_WordTree_recall_47, s_WordTree_recall_50, s_WordTree_recall_51, s_WordTree_recall_52, s_WordTree_recall_54, s_WordTree_recall_55, s_WordTree_recall_58, s_WordTree_recall_59, s_WordTree_recall_62, s_WordTree_recall_63, s_WordTree_recall_66, s_WordTree_recall_68, s_WordTree_recall_69, s_WordTree_recall_71, s_WordTree_recall_74, s_WordTree_recall_77, s_WordTree_recall_78, s_WordTree_recall_81, s_WordTree_recall_83, s_WordTree_recall_84, s_WordTree_recall_87, s_WordTree_recall_88, s_WordTree_recall_91, s_WordTree_recall_92, s_WordTree_recall_95, s_WordTree_recall_98, ↓reduceIte, Nat.reduceEqDiff, Nat.reduceLT, am_top, ax_f_some, ax_k_some, ax_k_none, s8_0, s8_1, s8_2, s8_3, s8_4, c2p_n, c2p_i, c2p_r, c2p_z, okvp_i, okvp_l, okvp_r, okvp_n, okvp_z, okvp_z0, okvp_z1, bi_narp, am_nar0p, am_nar1p, bi_0, bi_1, true_and, and_true, hc]
  | succ j ih =>
    intro k hk z
    have hs := SH_aPar h (rc2 n f (ga σ 7) (ga σ 8) k)
    have g1 : gi (aPar σ (rc2 n f (ga σ 7) (ga σ 8) k)) 1 9 4 = nI n := by rw [gi_set_ne (by decide)]; exact hn
    have g5 : gi (aPar σ (rc2 n f (ga σ 7) (ga σ 8) k)) 5 3 3 = nI nt := by rw [gi_set_ne (by decide)]; exact ht
    have g4 : ga (aPar σ (rc2 n f (ga σ 7) (ga σ 8) k)) 4 = rc2 n f (ga σ 7) (ga σ 8) k := ga_set_eq
    have hL := LogPut hs g5 hnt
    have g7 : ga (aPar σ (rc2 n f (ga σ 7) (ga σ 8) k)) 7 = ga σ 7 := ga_set_ne (by decide)
    have g8 : ga (aPar σ (rc2 n f (ga σ 7) (ga σ 8) k)) 8 = ga σ 8 := ga_set_ne (by decide)
    rw [g7, g8] at hL
    have hc : nI k < nI tl := nI_lt (by omega) (by omega)
    have l1 := fun (Q : Option Value → am_H → Prop) => Log_thingAt (Q := Q) hL (show k < nt by omega)
    have l2 := fun (Q : Option Value → am_H → Prop) => Log_valueAt (Q := Q) hL (show k < nt by omega)
    have ih := ih (k + 1) (by omega) (some (.int (ga σ 7 k)))
    rw [s_WordTree_recall_53]
    by_cases c : ltB (ga σ 7 k) (nI n) = true
    · obtain ⟨w, hw, ew⟩ := ltB_ix (by omega) c
      have hix := ix_nI (show w < 40 by omega) (by omega)
      have hcl : (nI w).toNatClampNeg = w := nI_clamp (by omega)
      simp only [rc2, if_pos c] at ih
      rw [ew] at ih c l1
      rw [hcl] at ih
      simp only [s_WordTree_recall_0, s_WordTree_recall_1, s_WordTree_recall_3, s_WordTree_recall_4, s_WordTree_recall_7, s_WordTree_recall_10, s_WordTree_recall_11, s_WordTree_recall_14, s_WordTree_recall_15, s_WordTree_recall_16, s_WordTree_recall_17, s_WordTree_recall_20, s_WordTree_recall_21, s_WordTree_recall_22, s_WordTree_recall_25, s_WordTree_recall_26, s_WordTree_recall_29, s_WordTree_recall_30, s_WordTree_recall_33, s_WordTree_recall_34, s_WordTree_recall_35, s_WordTree_recall_36, s_WordTree_recall_39, s_WordTree_recall_42, s_WordTree_recall_43, s_WordTree_recall_46, s_WordTree_recall_47, s_WordTree_recall_50, s_WordTree_recall_51, s_WordTree_recall_52, s_WordTree_recall_54, s_WordTree_recall_55, s_WordTree_recall_58, s_WordTree_recall_59, s_WordTree_recall_62, s_WordTree_recall_63, s_WordTree_recall_66, s_WordTree_recall_68, s_WordTree_recall_69, s_WordTree_recall_71, s_WordTree_recall_74, s_WordTree_recall_77, s_WordTree_recall_78, s_WordTree_recall_81, s_WordTree_recall_83, s_WordTree_recall_84, s_WordTree_recall_87, s_WordTree_recall_88, s_WordTree_recall_91, s_WordTree_recall_92, s_WordTree_recall_95, s_WordTree_recall_98, ↓reduceIte, Nat.reduceEqDiff, Nat.reduceLT, am_top, ax_f_some, ax_k_some, ax_k_none, s8_0, s8_1, s8_2, s8_3, s8_4, c2p_n, c2p_i, c2p_r, c2p_z, okvp_i, okvp_l, okvp_r, okvp_n, okvp_z, okvp_z0, okvp_z1, bi_narp, am_nar0p, am_nar1p, bi_0, bi_1, true_and, and_true, r_1_0 hs, r_1_1 hs, r_1_2 hs, r_1_3 hs, i_1_4 hs, o_1 hs, j_4 hs, n_4 hs, r_5_0 hs, r_5_1 hs, r_5_2 hs, i_5_3 hs, o_5 hs, l1, l2, T_isWord hs, g1, g4, hc, c, hix, hcl, nI_1, set_set, Bool.true_eq_false]
      exact ih
    · have c' : ltB (ga σ 7 k) (nI n) = false := by simpa using c
      simp only [rc2, if_neg c] at ih
      simp only [s_WordTree_recall_0, s_WordTree_recall_1, s_WordTree_recall_3, s_WordTree_recall_4, s_WordTree_recall_7, s_WordTree_recall_10, s_WordTree_recall_11, s_WordTree_recall_14, s_WordTree_recall_15, s_WordTree_recall_16, s_WordTree_recall_17, s_WordTree_recall_20, s_WordTree_recall_21, s_WordTree_recall_22, s_WordTree_recall_25, s_WordTree_recall_26, s_WordTree_recall_29, s_WordTree_recall_30, s_WordTree_recall_33, s_WordTree_recall_34, s_WordTree_recall_35, s_WordTree_recall_36, s_WordTree_recall_39, s_WordTree_recall_42, s_WordTree_recall_43, s_WordTree_recall_46, s_WordTree_recall_47, s_WordTree_recall_50, s_WordTree_recall_51, s_WordTree_recall_52, s_WordTree_recall_54, s_WordTree_recall_55, s_WordTree_recall_58, s_WordTree_recall_59, s_WordTree_recall_62, s_WordTree_recall_63, s_WordTree_recall_66, s_WordTree_recall_68, s_WordTree_recall_69, s_WordTree_recall_71, s_WordTree_recall_74, s_WordTree_recall_77, s_WordTree_recall_78, s_WordTree_recall_81, s_WordTree_recall_83, s_WordTree_recall_84, s_WordTree_recall_87, s_WordTree_recall_88, s_WordTree_recall_91, s_WordTree_recall_92, s_WordTree_recall_95, s_WordTree_recall_98, ↓reduceIte, Nat.reduceEqDiff, Nat.reduceLT, am_top, ax_f_some, ax_k_some, ax_k_none, s8_0, s8_1, s8_2, s8_3, s8_4, c2p_n, c2p_i, c2p_r, c2p_z, okvp_i, okvp_l, okvp_r, okvp_n, okvp_z, okvp_z0, okvp_z1, bi_narp, am_nar0p, am_nar1p, bi_0, bi_1, true_and, and_true, r_1_0 hs, r_1_1 hs, r_1_2 hs, r_1_3 hs, i_1_4 hs, o_1 hs, j_4 hs, n_4 hs, r_5_0 hs, r_5_1 hs, r_5_2 hs, i_5_3 hs, o_5 hs, l1, l2, T_isWord hs, g1, g4, hc, c', nI_1, set_set, Bool.false_eq_true]
      exact ih
theorem T_recall (h : SH σ) (hn : gi σ 1 9 4 = nI n) (hle : n ≤ 40) (ht : gi σ 5 3 3 = nI nt) (hnt : nt ≤ 100) (m : Int32) : ax k_WordTree_recall 0 [some (.ref 1), some (.int m), none, none, none] [] σ Q = Q none (aPar σ (rcF σ n nt m)) := by
  have tl := tolR_le (ga σ 6) m nt 0
  have h2 := T_recall_2 (Q := Q) h hn hle ht hnt m (rc1 (ga σ 4) (ga σ 2) (ga σ 3) m n) (tl := tolR (ga σ 6) m nt 0) (by omega) (tolR (ga σ 6) m nt 0) 0 (by omega) none
  rw [nI_0] at h2
  simp only [rc2] at h2
  have hs := SH_aPar h (rc1 (ga σ 4) (ga σ 2) (ga σ 3) m n)
  have g5 : gi (aPar σ (rc1 (ga σ 4) (ga σ 2) (ga σ 3) m n)) 5 3 3 = nI nt := by rw [gi_set_ne (by decide)]; exact ht
  have hL := LogPut hs g5 hnt
  have g6 : ga (aPar σ (rc1 (ga σ 4) (ga σ 2) (ga σ 3) m n)) 6 = ga σ 6 := ga_set_ne (by decide)
  rw [g6] at hL
  have l0 := fun (Q : Option Value → am_H → Prop) => Log_toldBy (Q := Q) hL m
  have h1 := T_recall_1 (Q := Q) h hn hle m (Q none (aPar σ (rcF σ n nt m))) (by
    simp only [s_WordTree_recall_0, s_WordTree_recall_1, s_WordTree_recall_3, s_WordTree_recall_4, s_WordTree_recall_7, s_WordTree_recall_10, s_WordTree_recall_11, s_WordTree_recall_14, s_WordTree_recall_15, s_WordTree_recall_16, s_WordTree_recall_17, s_WordTree_recall_20, s_WordTree_recall_21, s_WordTree_recall_22, s_WordTree_recall_25, s_WordTree_recall_26, s_WordTree_recall_29, s_WordTree_recall_30, s_WordTree_recall_33, s_WordTree_recall_34, s_WordTree_recall_35, s_WordTree_recall_36, s_WordTree_recall_39, s_WordTree_recall_42, s_WordTree_recall_43, s_WordTree_recall_46, s_WordTree_recall_47, s_WordTree_recall_50, s_WordTree_recall_51, s_WordTree_recall_52, s_WordTree_recall_54, s_WordTree_recall_55, s_WordTree_recall_58, s_WordTree_recall_59, s_WordTree_recall_62, s_WordTree_recall_63, s_WordTree_recall_66, s_WordTree_recall_68, s_WordTree_recall_69, s_WordTree_recall_71, s_WordTree_recall_74, s_WordTree_recall_77, s_WordTree_recall_78, s_WordTree_recall_81, s_WordTree_recall_83, s_WordTree_recall_84, s_WordTree_recall_87, s_WordTree_recall_88, s_WordTree_recall_91, s_WordTree_recall_92, s_WordTree_recall_95, s_WordTree_recall_98, ↓reduceIte, Nat.reduceEqDiff, Nat.reduceLT, am_top, ax_f_some, ax_k_some, ax_k_none, s8_0, s8_1, s8_2, s8_3, s8_4, c2p_n, c2p_i, c2p_r, c2p_z, okvp_i, okvp_l, okvp_r, okvp_n, okvp_z, okvp_z0, okvp_z1, bi_narp, am_nar0p, am_nar1p, bi_0, bi_1, true_and, and_true, r_1_0 hs, r_1_1 hs, r_1_2 hs, r_1_3 hs, i_1_4 hs, o_1 hs, r_5_0 hs, r_5_1 hs, r_5_2 hs, i_5_3 hs, o_5 hs, l0]
    exact h2) n 0 (by omega)
  have e : aPar σ (ga σ 4) = σ := set_selfj (j_4 h)
  simp only [rc1, nI_0] at h1
  rw [e] at h1
  simp only [s_WordTree_recall_0, s_WordTree_recall_1, s_WordTree_recall_3, s_WordTree_recall_4, s_WordTree_recall_7, s_WordTree_recall_10, s_WordTree_recall_11, s_WordTree_recall_14, s_WordTree_recall_15, s_WordTree_recall_16, s_WordTree_recall_17, s_WordTree_recall_20, s_WordTree_recall_21, s_WordTree_recall_22, s_WordTree_recall_25, s_WordTree_recall_26, s_WordTree_recall_29, s_WordTree_recall_30, s_WordTree_recall_33, s_WordTree_recall_34, s_WordTree_recall_35, s_WordTree_recall_36, s_WordTree_recall_39, s_WordTree_recall_42, s_WordTree_recall_43, s_WordTree_recall_46, s_WordTree_recall_47, s_WordTree_recall_50, s_WordTree_recall_51, s_WordTree_recall_52, s_WordTree_recall_54, s_WordTree_recall_55, s_WordTree_recall_58, s_WordTree_recall_59, s_WordTree_recall_62, s_WordTree_recall_63, s_WordTree_recall_66, s_WordTree_recall_68, s_WordTree_recall_69, s_WordTree_recall_71, s_WordTree_recall_74, s_WordTree_recall_77, s_WordTree_recall_78, s_WordTree_recall_81, s_WordTree_recall_83, s_WordTree_recall_84, s_WordTree_recall_87, s_WordTree_recall_88, s_WordTree_recall_91, s_WordTree_recall_92, s_WordTree_recall_95, s_WordTree_recall_98, ↓reduceIte, Nat.reduceEqDiff, Nat.reduceLT, am_top, ax_f_some, ax_k_some, ax_k_none, s8_0, s8_1, s8_2, s8_3, s8_4, c2p_n, c2p_i, c2p_r, c2p_z, okvp_i, okvp_l, okvp_r, okvp_n, okvp_z, okvp_z0, okvp_z1, bi_narp, am_nar0p, am_nar1p, bi_0, bi_1, true_and, and_true]
  exact h1
theorem T_climb_loop (h : SH σ) (hn : gi σ 1 9 4 = nI n) (hle : n ≤ 40) (w : Int32) : ∀ s k, k + s = 40 → ∀ x c, ax k_WordTree_climb 8 [some (.ref 1), some (.int w), some (.long c), none, some (.int x), some (.int (nI k))] [] σ Q = Q (some (.long (clR (ga σ 4) n s x c))) σ := by
  intro s
  induction s with
  | zero =>
    intro k hk x c
    have hk : k = 40 := by omega
    subst hk
    have hc : ¬ nI 40 < nI 40 := Int32.lt_irrefl
    rw [s_WordTree_climb_8]
    simp only [s_WordTree_climb_0, s_WordTree_climb_1, s_WordTree_climb_2, s_WordTree_climb_3, s_WordTree_climb_5, s_WordTree_climb_6, s_WordTree_climb_10, s_WordTree_climb_12, s_WordTree_climb_15, s_WordTree_climb_16, s_WordTree_climb_18, s_WordTree_climb_21, s_WordTree_climb_24, s_WordTree_climb_25, s_WordTree_climb_26, s_WordTree_climb_28, s_WordTree_climb_29, s_WordTree_climb_30, s_WordTree_climb_31, s_WordTree_climb_32, s_WordTree_climb_35, s_WordTree_climb_37, s_WordTree_climb_38, s_WordTree_climb_40, s_WordTree_climb_43, s_WordTree_climb_46, s_WordTree_climb_47, ↓reduceIte, Nat.reduceEqDiff, Nat.reduceLT, am_top, ax_f_some, ax_k_some, ax_k_none, s8_0, s8_1, s8_2, s8_3, s8_4, c2p_n, c2p_i, c2p_r, c2p_z, okvp_i, okvp_l, okvp_r, okvp_n, okvp_z, okvp_z0, okvp_z1, bi_narp, am_nar0p, am_nar1p, bi_0, bi_1, true_and, and_true, e40, hc, clR]
  | succ s ih =>
    intro k hk x c
    have hc : nI k < nI 40 := nI_lt (by omega) (by omega)
    rw [s_WordTree_climb_8]
    simp only [clR]
    by_cases c1 : ltB x (nI n) = true
    · obtain ⟨j, hj, rfl⟩ := ltB_ix (by omega) c1
      have hix := ix_nI (show j < 40 by omega) (by omega)
      have hcl : (nI j).toNatClampNeg = j := nI_clamp (by omega)
      have ih := ih (k + 1) (by omega) (ga σ 4 j) (c ||| ((1 : Int64) <<< ((nI j).toInt64 &&& 63)))
      simp only [s_WordTree_climb_0, s_WordTree_climb_1, s_WordTree_climb_2, s_WordTree_climb_3, s_WordTree_climb_5, s_WordTree_climb_6, s_WordTree_climb_10, s_WordTree_climb_12, s_WordTree_climb_15, s_WordTree_climb_16, s_WordTree_climb_18, s_WordTree_climb_21, s_WordTree_climb_24, s_WordTree_climb_25, s_WordTree_climb_26, s_WordTree_climb_28, s_WordTree_climb_29, s_WordTree_climb_30, s_WordTree_climb_31, s_WordTree_climb_32, s_WordTree_climb_35, s_WordTree_climb_37, s_WordTree_climb_38, s_WordTree_climb_40, s_WordTree_climb_43, s_WordTree_climb_46, s_WordTree_climb_47, ↓reduceIte, Nat.reduceEqDiff, Nat.reduceLT, am_top, ax_f_some, ax_k_some, ax_k_none, s8_0, s8_1, s8_2, s8_3, s8_4, c2p_n, c2p_i, c2p_r, c2p_z, okvp_i, okvp_l, okvp_r, okvp_n, okvp_z, okvp_z0, okvp_z1, bi_narp, am_nar0p, am_nar1p, bi_0, bi_1, true_and, and_true, r_1_0 h, r_1_1 h, r_1_2 h, r_1_3 h, i_1_4 h, o_1 h, j_4 h, n_4 h, T_isWord h, hn, e40, hc, c1, hix, hcl, nI_1, Bool.true_eq_false]
      exact ih
    · have c1' : ltB x (nI n) = false := by simpa using c1
      simp only [s_WordTree_climb_0, s_WordTree_climb_1, s_WordTree_climb_2, s_WordTree_climb_3, s_WordTree_climb_5, s_WordTree_climb_6, s_WordTree_climb_10, s_WordTree_climb_12, s_WordTree_climb_15, s_WordTree_climb_16, s_WordTree_climb_18, s_WordTree_climb_21, s_WordTree_climb_24, s_WordTree_climb_25, s_WordTree_climb_26, s_WordTree_climb_28, s_WordTree_climb_29, s_WordTree_climb_30, s_WordTree_climb_31, s_WordTree_climb_32, s_WordTree_climb_35, s_WordTree_climb_37, s_WordTree_climb_38, s_WordTree_climb_40, s_WordTree_climb_43, s_WordTree_climb_46, s_WordTree_climb_47, ↓reduceIte, Nat.reduceEqDiff, Nat.reduceLT, am_top, ax_f_some, ax_k_some, ax_k_none, s8_0, s8_1, s8_2, s8_3, s8_4, c2p_n, c2p_i, c2p_r, c2p_z, okvp_i, okvp_l, okvp_r, okvp_n, okvp_z, okvp_z0, okvp_z1, bi_narp, am_nar0p, am_nar1p, bi_0, bi_1, true_and, and_true, r_1_0 h, r_1_1 h, r_1_2 h, r_1_3 h, i_1_4 h, o_1 h, T_isWord h, hn, e40, hc, c1', Bool.false_eq_true]
theorem T_climb (h : SH σ) (hn : gi σ 1 9 4 = nI n) (hle : n ≤ 40) (x : Int32) : ax k_WordTree_climb 0 [some (.ref 1), some (.int x), none, none, none, none] [] σ Q = Q (some (.long (clR (ga σ 4) n 40 x 0))) σ := by
  have hl := T_climb_loop (Q := Q) h hn hle x 40 0 (by omega) x 0
  rw [nI_0] at hl
  simp only [s_WordTree_climb_0, s_WordTree_climb_1, s_WordTree_climb_2, s_WordTree_climb_3, s_WordTree_climb_5, s_WordTree_climb_6, s_WordTree_climb_10, s_WordTree_climb_12, s_WordTree_climb_15, s_WordTree_climb_16, s_WordTree_climb_18, s_WordTree_climb_21, s_WordTree_climb_24, s_WordTree_climb_25, s_WordTree_climb_26, s_WordTree_climb_28, s_WordTree_climb_29, s_WordTree_climb_30, s_WordTree_climb_31, s_WordTree_climb_32, s_WordTree_climb_35, s_WordTree_climb_37, s_WordTree_climb_38, s_WordTree_climb_40, s_WordTree_climb_43, s_WordTree_climb_46, s_WordTree_climb_47, ↓reduceIte, Nat.reduceEqDiff, Nat.reduceLT, am_top, ax_f_some, ax_k_some, ax_k_none, s8_0, s8_1, s8_2, s8_3, s8_4, c2p_n, c2p_i, c2p_r, c2p_z, okvp_i, okvp_l, okvp_r, okvp_n, okvp_z, okvp_z0, okvp_z1, bi_narp, am_nar0p, am_nar1p, bi_0, bi_1, true_and, and_true]
  exact hl
theorem T_chainOf (h : SH σ) (hn : gi σ 1 9 4 = nI n) (hle : n ≤ 40) (ht : gi σ 5 3 3 = nI nt) (hnt : nt ≤ 100) (x m : Int32) : ax k_WordTree_chainOf 0 [some (.ref 1), some (.int x), some (.int m)] [] σ Q = Q (some (.long (clR (rcF σ n nt m) n 40 x 0))) (aPar σ (rcF σ n nt m)) := by
  have hs := SH_aPar h (rcF σ n nt m)
  have g1 : gi (aPar σ (rcF σ n nt m)) 1 9 4 = nI n := by rw [gi_set_ne (by decide)]; exact hn
  have g4 : ga (aPar σ (rcF σ n nt m)) 4 = rcF σ n nt m := ga_set_eq
  have l1 := fun (Q : Option Value → am_H → Prop) => T_climb (Q := Q) hs g1 hle x
  rw [g4] at l1
  simp only [s_WordTree_chainOf_0, s_WordTree_chainOf_1, s_WordTree_chainOf_2, s_WordTree_chainOf_5, s_WordTree_chainOf_6, s_WordTree_chainOf_7, s_WordTree_chainOf_10, ↓reduceIte, Nat.reduceEqDiff, Nat.reduceLT, am_top, ax_f_some, ax_k_some, ax_k_none, s8_0, s8_1, s8_2, s8_3, s8_4, c2p_n, c2p_i, c2p_r, c2p_z, okvp_i, okvp_l, okvp_r, okvp_n, okvp_z, okvp_z0, okvp_z1, bi_narp, am_nar0p, am_nar1p, bi_0, bi_1, true_and, and_true, r_1_0 h, r_1_1 h, r_1_2 h, r_1_3 h, i_1_4 h, o_1 h, r_1_0 hs, r_1_1 hs, r_1_2 hs, r_1_3 hs, i_1_4 hs, o_1 hs, T_recall h hn hle ht hnt, l1]
theorem T_treeOf_loop (h : SH σ) (hn : gi σ 1 9 4 = nI n) (hle : n ≤ 40) (w m : Int32) : ∀ j k, k + j = n → ax k_WordTree_treeOf 10 [some (.ref 1), some (.int w), some (.int m), some (.long (treR (ga σ 4) n w k)), none, some (.int (nI k))] [] σ Q = Q (some (.long (treR (ga σ 4) n w n))) σ := by
  intro j
  induction j with
  | zero =>
    intro k hk
    have hk : k = n := by omega
    subst hk
    have hc : ¬ nI k < nI k := Int32.lt_irrefl
    rw [s_WordTree_treeOf_10]
    simp only [s_WordTree_treeOf_0, s_WordTree_treeOf_1, s_WordTree_treeOf_2, s_WordTree_treeOf_5, s_WordTree_treeOf_6, s_WordTree_treeOf_7, s_WordTree_treeOf_8, s_WordTree_treeOf_12, s_WordTree_treeOf_13, s_WordTree_treeOf_16, s_WordTree_treeOf_19, s_WordTree_treeOf_20, s_WordTree_treeOf_22, s_WordTree_treeOf_25, s_WordTree_treeOf_26, s_WordTree_treeOf_29, s_WordTree_treeOf_32, s_WordTree_treeOf_33, s_WordTree_treeOf_34, s_WordTree_treeOf_36, s_WordTree_treeOf_37, s_WordTree_treeOf_38, s_WordTree_treeOf_39, s_WordTree_treeOf_42, s_WordTree_treeOf_45, s_WordTree_treeOf_46, ↓reduceIte, Nat.reduceEqDiff, Nat.reduceLT, am_top, ax_f_some, ax_k_some, ax_k_none, s8_0, s8_1, s8_2, s8_3, s8_4, c2p_n, c2p_i, c2p_r, c2p_z, okvp_i, okvp_l, okvp_r, okvp_n, okvp_z, okvp_z0, okvp_z1, bi_narp, am_nar0p, am_nar1p, bi_0, bi_1, true_and, and_true, r_1_0 h, r_1_1 h, r_1_2 h, r_1_3 h, i_1_4 h, o_1 h, hn, hc]
  | succ j ih =>
    intro k hk
    have ih := ih (k + 1) (by omega)
    have hc : nI k < nI n := nI_lt (by omega) (by omega)
    rw [s_WordTree_treeOf_10]
    simp only [s_WordTree_treeOf_0, s_WordTree_treeOf_1, s_WordTree_treeOf_2, s_WordTree_treeOf_5, s_WordTree_treeOf_6, s_WordTree_treeOf_7, s_WordTree_treeOf_8, s_WordTree_treeOf_12, s_WordTree_treeOf_13, s_WordTree_treeOf_16, s_WordTree_treeOf_19, s_WordTree_treeOf_20, s_WordTree_treeOf_22, s_WordTree_treeOf_25, s_WordTree_treeOf_26, s_WordTree_treeOf_29, s_WordTree_treeOf_32, s_WordTree_treeOf_33, s_WordTree_treeOf_34, s_WordTree_treeOf_36, s_WordTree_treeOf_37, s_WordTree_treeOf_38, s_WordTree_treeOf_39, s_WordTree_treeOf_42, s_WordTree_treeOf_45, s_WordTree_treeOf_46, ↓reduceIte, Nat.reduceEqDiff, Nat.reduceLT, am_top, ax_f_some, ax_k_some, ax_k_none, s8_0, s8_1, s8_2, s8_3, s8_4, c2p_n, c2p_i, c2p_r, c2p_z, okvp_i, okvp_l, okvp_r, okvp_n, okvp_z, okvp_z0, okvp_z1, bi_narp, am_nar0p, am_nar1p, bi_0, bi_1, true_and, and_true, r_1_0 h, r_1_1 h, r_1_2 h, r_1_3 h, i_1_4 h, o_1 h, T_climb h hn hle, A_holds, hn, hc, nI_1]
    rw [← ih]
    by_cases c : hldB (clR (ga σ 4) n 40 (nI k) 0) w = true
    · simp only [treR, if_pos c, c, Bool.true_eq_false, ↓reduceIte]
    · have c' : hldB (clR (ga σ 4) n 40 (nI k) 0) w = false := by simpa using c
      simp only [treR, c', Bool.false_eq_true, ↓reduceIte]
theorem T_treeOf (h : SH σ) (hn : gi σ 1 9 4 = nI n) (hle : n ≤ 40) (ht : gi σ 5 3 3 = nI nt) (hnt : nt ≤ 100) (w m : Int32) : ax k_WordTree_treeOf 0 [some (.ref 1), some (.int w), some (.int m), none, none, none] [] σ Q = Q (some (.long (treR (rcF σ n nt m) n w n))) (aPar σ (rcF σ n nt m)) := by
  have hs := SH_aPar h (rcF σ n nt m)
  have g1 : gi (aPar σ (rcF σ n nt m)) 1 9 4 = nI n := by rw [gi_set_ne (by decide)]; exact hn
  have g4 : ga (aPar σ (rcF σ n nt m)) 4 = rcF σ n nt m := ga_set_eq
  have l1 := T_treeOf_loop (Q := Q) hs g1 hle w m n 0 (by omega)
  rw [g4] at l1
  simp only [treR, nI_0] at l1
  simp only [s_WordTree_treeOf_0, s_WordTree_treeOf_1, s_WordTree_treeOf_2, s_WordTree_treeOf_5, s_WordTree_treeOf_6, s_WordTree_treeOf_7, s_WordTree_treeOf_8, s_WordTree_treeOf_12, s_WordTree_treeOf_13, s_WordTree_treeOf_16, s_WordTree_treeOf_19, s_WordTree_treeOf_20, s_WordTree_treeOf_22, s_WordTree_treeOf_25, s_WordTree_treeOf_26, s_WordTree_treeOf_29, s_WordTree_treeOf_32, s_WordTree_treeOf_33, s_WordTree_treeOf_34, s_WordTree_treeOf_36, s_WordTree_treeOf_37, s_WordTree_treeOf_38, s_WordTree_treeOf_39, s_WordTree_treeOf_42, s_WordTree_treeOf_45, s_WordTree_treeOf_46, ↓reduceIte, Nat.reduceEqDiff, Nat.reduceLT, am_top, ax_f_some, ax_k_some, ax_k_none, s8_0, s8_1, s8_2, s8_3, s8_4, c2p_n, c2p_i, c2p_r, c2p_z, okvp_i, okvp_l, okvp_r, okvp_n, okvp_z, okvp_z0, okvp_z1, bi_narp, am_nar0p, am_nar1p, bi_0, bi_1, true_and, and_true, r_1_0 h, r_1_1 h, r_1_2 h, r_1_3 h, i_1_4 h, o_1 h, T_recall h hn hle ht hnt]
  exact l1
theorem T_move (h : SH σ) (hn : gi σ 1 9 4 = nI n) (hle : n ≤ 40) (ht : gi σ 5 3 3 = nI nt) (hnt : nt ≤ 100) (w i m : Int32) : ax k_WordTree_move 0 [some (.ref 1), some (.int w), some (.int i), some (.int m)] [] σ Q = (if ltB w (nI n) = true ∧ (i = -1 ∨ ltB i (nI n) = true) then (if hldB (clR (rcF σ n nt m) n 40 i 0) w = true then Q (some (.int 0)) (aPar σ (rcF σ n nt m)) else if ¬ nt = 100 then Q (some (.int 1)) (aTell (aPar σ (rcF σ n nt m)) 5 6 7 8 100 nt m w i) else Q (some (.int 0)) (aPar σ (rcF σ n nt m))) else Q (some (.int 0)) σ) := by
  have hs := SH_aPar h (rcF σ n nt m)
  have g5 : gi (aPar σ (rcF σ n nt m)) 5 3 3 = nI nt := by rw [gi_set_ne (by decide)]; exact ht
  have hL := LogPut hs g5 hnt
  have l0 := fun (Q : Option Value → am_H → Prop) => Log_tell (Q := Q) hL m w i
  have e : (nt < 100) = ¬ nt = 100 := propext ⟨fun _ => by omega, fun _ => by omega⟩
  simp only [s_WordTree_move_0, s_WordTree_move_1, s_WordTree_move_2, s_WordTree_move_5, s_WordTree_move_8, s_WordTree_move_9, s_WordTree_move_10, s_WordTree_move_13, s_WordTree_move_16, s_WordTree_move_17, s_WordTree_move_18, s_WordTree_move_19, s_WordTree_move_22, s_WordTree_move_23, s_WordTree_move_26, s_WordTree_move_29, s_WordTree_move_30, s_WordTree_move_31, s_WordTree_move_32, s_WordTree_move_35, s_WordTree_move_36, s_WordTree_move_37, s_WordTree_move_38, s_WordTree_move_41, ↓reduceIte, Nat.reduceEqDiff, Nat.reduceLT, am_top, ax_f_some, ax_k_some, ax_k_none, s8_0, s8_1, s8_2, s8_3, s8_4, c2p_n, c2p_i, c2p_r, c2p_z, okvp_i, okvp_l, okvp_r, okvp_n, okvp_z, okvp_z0, okvp_z1, bi_narp, am_nar0p, am_nar1p, bi_0, bi_1, true_and, and_true, r_1_0 h, r_1_1 h, r_1_2 h, r_1_3 h, i_1_4 h, o_1 h, r_5_0 h, r_5_1 h, r_5_2 h, i_5_3 h, o_5 h, r_1_0 hs, r_1_1 hs, r_1_2 hs, r_1_3 hs, i_1_4 hs, o_1 hs, r_5_0 hs, r_5_1 hs, r_5_2 hs, i_5_3 hs, o_5 hs, T_isWord h, T_canHold h, hn, T_chainOf h hn hle ht hnt, A_holds, l0, e, aTell]
  cases c1 : ltB w (nI n)
  · simp
  · cases c2 : (decide (i = -1) || ltB i (nI n))
    · have : ¬ (i = -1 ∨ ltB i (nI n) = true) := by
        simpa [Bool.or_eq_true] using c2
      simp [this]
    · have : i = -1 ∨ ltB i (nI n) = true := by
        simpa [Bool.or_eq_true] using c2
      cases c3 : hldB (clR (rcF σ n nt m) n 40 i 0) w
      · by_cases c4 : nt = 100 <;> simp [this, c4]
      · simp [this]
end A7
