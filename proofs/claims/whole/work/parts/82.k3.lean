/-! THE CALLS ON BOTH SIDES, 3: searches, grids, sets -/
section K3
variable {L : Nat} {xs : Nat → Int32} {σ τ : am_H} {n nt p np nc : Nat} {fp fw : Nat → Nat}
theorem mLies_fr {W : List Nat} {V : List (Nat × Nat)} {Y : List Nat} (F : FM W V Y σ τ) (h : ∀ x ∈ [41, 42, 43], ¬ x ∈ W) : mLies τ p = mLies σ p := by
  funext m x
  unfold mLies
  rw [ga_fr (a := 41) F (by decide) (h _ (by decide)), ga_fr (a := 42) F (by decide) (h _ (by decide)), ga_fr (a := 43) F (by decide) (h _ (by decide))]
theorem mHas_fr {W : List Nat} {V : List (Nat × Nat)} {Y : List Nat} (F : FM W V Y σ τ) (h : ∀ x ∈ [49, 50, 51, 52], ¬ x ∈ W) : mHas τ nc = mHas σ nc := by
  funext x w m old
  unfold mHas
  rw [ga_fr (a := 49) F (by decide) (h _ (by decide)), ga_fr (a := 50) F (by decide) (h _ (by decide)), ga_fr (a := 51) F (by decide) (h _ (by decide)), ga_fr (a := 52) F (by decide) (h _ (by decide))]
theorem srch (F : FM [4, 15, 21, 59] [(40, 44)] [] σ τ) (W : Iwd σ n nt p) (P : Ipc σ np) (C : Icp σ n np nc fp fw) {t : Nat} (ht : t < n) (m : Int32) (old : Bool) : ∃ isO : Nat → Bool, (∀ w, w < n → ∃ N, upF (mLies τ p m) (nI t) N (nI w) = some (isO w)) ∧ (∀ i, i < 64 → bitL (pW σ n nt nc fp fw (nI t) m old) i = (decide (i < np) && mFinds τ nc n isO m old i)) ∧ (∀ i, i < np → bitL (pW σ n nt nc fp fw (nI t) m old) i = anyR (fun w => mHas τ nc (nI i) (nI w) m old && isO w) 0 n) := by
  obtain ⟨-, B, Ee⟩ := W
  obtain ⟨-, BPp, -⟩ := P
  obtain ⟨-, BCc⟩ := C
  have hn := B.1
  have hnp := BPp.1
  obtain ⟨isO, hO⟩ := ex_up Ee (t := nI t) (nI_pos (by omega)) m
  have fb : ∀ i, i < 64 → bitL (pW σ n nt nc fp fw (nI t) m old) i = (decide (i < 40) && anyR (fun w => hasF (ga σ 49) (ga σ 50) (ga σ 51) (ga σ 52) (nI i) (nI w) m old nc && isO w) 0 n) := fun i hi => find_bit BCc B Ee hnp ht (fun w hw => (hO w hw).2) (fun y hy => par_eq B (ga σ 4) m hy) (fun q hq => by rw [filR_eq, if_pos hq]) old hi
  have e46 : ga τ 46 = ga σ 46 := ga_fr F (by decide) (by decide)
  have eh : mHas τ nc = mHas σ nc := mHas_fr F (by decide)
  refine ⟨isO, fun w hw => ?_, fun i hi => ?_, fun i hi => ?_⟩
  · rw [mLies_fr F (by decide)]
    exact (hO w hw).1
  · rw [fb i hi]
    unfold mFinds
    rw [e46, eh]
    by_cases c : i < np
    · by_cases c2 : m < ga σ 46 i
      · rw [any_out BCc hn.1 hnp (by omega) (fun z => z.2 c2)]
        simp [c2]
      · have c3 : i < 40 := by omega
        simp only [c, c2, c3, decide_true, decide_false, Bool.true_and, Bool.not_false]
        rfl
    · rw [any_out BCc hn.1 hnp (by omega) (fun z => c z.1)]
      simp [c]
  · rw [fb i (by omega), eh]
    have c3 : i < 40 := by omega
    simp only [c3, decide_true, Bool.true_and]
    rfl
theorem M_has_no (h : SH σ) {Q : Option Value → am_H → Prop} (pic word m : Int32) (old : Bool) (hno : ¬ ((inB pic 0 (gi σ 40 11 7 - 1) = true ∧ inB word 0 (gi σ 40 11 1 - 1) = true) ∧ inB m 0 (gi σ 40 11 0) = true)) : ax k_M_has 0 [some (.ref 40), some (.int pic), some (.int word), some (.int m), some (.int (bi old))] [] σ Q = Q (some (.int (-1))) σ := by
  cases c1 : inB pic 0 (gi σ 40 11 7 - 1)
  · simp only [s_M_has_0, s_M_has_1, s_M_has_2, s_M_has_5, s_M_has_8, s_M_has_9, s_M_has_10, s_M_has_13, s_M_has_16, s_M_has_17, s_M_has_18, s_M_has_21, s_M_has_24, s_M_has_25, s_M_has_26, s_M_has_27, s_M_has_28, s_M_has_30, s_M_has_33, s_M_has_36, s_M_has_37, s_M_has_40, s_M_has_41, s_M_has_44, s_M_has_45, ↓reduceIte, Nat.reduceEqDiff, Nat.reduceLT, am_top, ax_f_some, ax_k_some, ax_k_none, s8_0, s8_1, s8_2, s8_3, s8_4, c2p_n, c2p_i, c2p_r, c2p_z, okvp_i, okvp_l, okvp_r, okvp_n, okvp_z, okvp_z0, okvp_z1, bi_narp, am_nar0p, am_nar1p, bi_0, bi_1, true_and, and_true, i_40_0 h, i_40_1 h, i_40_2 h, i_40_3 h, r_40_4 h, r_40_5 h, r_40_6 h, i_40_7 h, r_40_8 h, r_40_9 h, r_40_10 h, r_40_11 h, r_40_12 h, i_40_13 h, r_40_14 h, r_40_15 h, r_40_16 h, r_40_17 h, i_40_18 h, i_40_19 h, r_40_20 h, r_40_21 h, r_40_22 h, i_40_23 h, r_40_24 h, r_40_25 h, r_40_26 h, r_40_27 h, r_40_28 h, i_40_29 h, r_40_30 h, r_40_31 h, r_40_32 h, r_40_33 h, r_40_34 h, r_40_35 h, r_40_36 h, r_40_37 h, i_40_38 h, i_40_39 h, i_40_40 h, i_40_41 h, i_40_42 h, i_40_43 h, i_40_44 h, i_40_45 h, r_40_46 h, r_40_47 h, r_40_48 h, r_40_49 h, r_40_50 h, r_40_51 h, r_40_52 h, r_40_53 h, r_40_54 h, r_40_55 h, r_40_56 h, r_40_57 h, r_40_58 h, i_40_59 h, i_40_60 h, r_40_61 h, o_40 h, M_isPicture 40 _ _ (i_40_7 h), M_isWord 40 _ _ (i_40_1 h), M_isPast 40 _ _ (i_40_0 h), c1]
  · cases c2 : inB word 0 (gi σ 40 11 1 - 1)
    · simp only [s_M_has_0, s_M_has_1, s_M_has_2, s_M_has_5, s_M_has_8, s_M_has_9, s_M_has_10, s_M_has_13, s_M_has_16, s_M_has_17, s_M_has_18, s_M_has_21, s_M_has_24, s_M_has_25, s_M_has_26, s_M_has_27, s_M_has_28, s_M_has_30, s_M_has_33, s_M_has_36, s_M_has_37, s_M_has_40, s_M_has_41, s_M_has_44, s_M_has_45, ↓reduceIte, Nat.reduceEqDiff, Nat.reduceLT, am_top, ax_f_some, ax_k_some, ax_k_none, s8_0, s8_1, s8_2, s8_3, s8_4, c2p_n, c2p_i, c2p_r, c2p_z, okvp_i, okvp_l, okvp_r, okvp_n, okvp_z, okvp_z0, okvp_z1, bi_narp, am_nar0p, am_nar1p, bi_0, bi_1, true_and, and_true, i_40_0 h, i_40_1 h, i_40_2 h, i_40_3 h, r_40_4 h, r_40_5 h, r_40_6 h, i_40_7 h, r_40_8 h, r_40_9 h, r_40_10 h, r_40_11 h, r_40_12 h, i_40_13 h, r_40_14 h, r_40_15 h, r_40_16 h, r_40_17 h, i_40_18 h, i_40_19 h, r_40_20 h, r_40_21 h, r_40_22 h, i_40_23 h, r_40_24 h, r_40_25 h, r_40_26 h, r_40_27 h, r_40_28 h, i_40_29 h, r_40_30 h, r_40_31 h, r_40_32 h, r_40_33 h, r_40_34 h, r_40_35 h, r_40_36 h, r_40_37 h, i_40_38 h, i_40_39 h, i_40_40 h, i_40_41 h, i_40_42 h, i_40_43 h, i_40_44 h, i_40_45 h, r_40_46 h, r_40_47 h, r_40_48 h, r_40_49 h, r_40_50 h, r_40_51 h, r_40_52 h, r_40_53 h, r_40_54 h, r_40_55 h, r_40_56 h, r_40_57 h, r_40_58 h, i_40_59 h, i_40_60 h, r_40_61 h, o_40 h, M_isPicture 40 _ _ (i_40_7 h), M_isWord 40 _ _ (i_40_1 h), M_isPast 40 _ _ (i_40_0 h), c1, c2, Bool.true_eq_false]
    · cases c3 : inB m 0 (gi σ 40 11 0)
      · simp only [s_M_has_0, s_M_has_1, s_M_has_2, s_M_has_5, s_M_has_8, s_M_has_9, s_M_has_10, s_M_has_13, s_M_has_16, s_M_has_17, s_M_has_18, s_M_has_21, s_M_has_24, s_M_has_25, s_M_has_26, s_M_has_27, s_M_has_28, s_M_has_30, s_M_has_33, s_M_has_36, s_M_has_37, s_M_has_40, s_M_has_41, s_M_has_44, s_M_has_45, ↓reduceIte, Nat.reduceEqDiff, Nat.reduceLT, am_top, ax_f_some, ax_k_some, ax_k_none, s8_0, s8_1, s8_2, s8_3, s8_4, c2p_n, c2p_i, c2p_r, c2p_z, okvp_i, okvp_l, okvp_r, okvp_n, okvp_z, okvp_z0, okvp_z1, bi_narp, am_nar0p, am_nar1p, bi_0, bi_1, true_and, and_true, i_40_0 h, i_40_1 h, i_40_2 h, i_40_3 h, r_40_4 h, r_40_5 h, r_40_6 h, i_40_7 h, r_40_8 h, r_40_9 h, r_40_10 h, r_40_11 h, r_40_12 h, i_40_13 h, r_40_14 h, r_40_15 h, r_40_16 h, r_40_17 h, i_40_18 h, i_40_19 h, r_40_20 h, r_40_21 h, r_40_22 h, i_40_23 h, r_40_24 h, r_40_25 h, r_40_26 h, r_40_27 h, r_40_28 h, i_40_29 h, r_40_30 h, r_40_31 h, r_40_32 h, r_40_33 h, r_40_34 h, r_40_35 h, r_40_36 h, r_40_37 h, i_40_38 h, i_40_39 h, i_40_40 h, i_40_41 h, i_40_42 h, i_40_43 h, i_40_44 h, i_40_45 h, r_40_46 h, r_40_47 h, r_40_48 h, r_40_49 h, r_40_50 h, r_40_51 h, r_40_52 h, r_40_53 h, r_40_54 h, r_40_55 h, r_40_56 h, r_40_57 h, r_40_58 h, i_40_59 h, i_40_60 h, r_40_61 h, o_40 h, M_isPicture 40 _ _ (i_40_7 h), M_isWord 40 _ _ (i_40_1 h), M_isPast 40 _ _ (i_40_0 h), c1, c2, c3, Bool.true_eq_false]
      · exact absurd ⟨⟨c1, c2⟩, c3⟩ hno
theorem M_search_no (h : SH σ) {Q : Option Value → am_H → Prop} (word m : Int32) (old : Bool) (hno : ¬ (inB word 0 (gi σ 40 11 1 - 1) = true ∧ inB m 0 (gi σ 40 11 0) = true)) : ax k_M_search 0 [some (.ref 40), some (.int word), some (.int m), some (.int (bi old)), none, none] [] σ Q = Q (some (.int (-1))) σ := by
  cases c2 : inB word 0 (gi σ 40 11 1 - 1)
  · simp only [s_M_search_0, s_M_search_1, s_M_search_2, s_M_search_5, s_M_search_8, s_M_search_9, s_M_search_10, s_M_search_13, s_M_search_16, s_M_search_17, s_M_search_18, s_M_search_19, s_M_search_21, s_M_search_22, s_M_search_26, s_M_search_27, s_M_search_30, s_M_search_33, s_M_search_35, s_M_search_36, s_M_search_38, s_M_search_39, s_M_search_40, s_M_search_41, s_M_search_44, s_M_search_47, s_M_search_48, s_M_search_51, s_M_search_52, s_M_search_53, s_M_search_55, s_M_search_58, s_M_search_61, s_M_search_63, ↓reduceIte, Nat.reduceEqDiff, Nat.reduceLT, am_top, ax_f_some, ax_k_some, ax_k_none, s8_0, s8_1, s8_2, s8_3, s8_4, c2p_n, c2p_i, c2p_r, c2p_z, okvp_i, okvp_l, okvp_r, okvp_n, okvp_z, okvp_z0, okvp_z1, bi_narp, am_nar0p, am_nar1p, bi_0, bi_1, true_and, and_true, i_40_0 h, i_40_1 h, i_40_2 h, i_40_3 h, r_40_4 h, r_40_5 h, r_40_6 h, i_40_7 h, r_40_8 h, r_40_9 h, r_40_10 h, r_40_11 h, r_40_12 h, i_40_13 h, r_40_14 h, r_40_15 h, r_40_16 h, r_40_17 h, i_40_18 h, i_40_19 h, r_40_20 h, r_40_21 h, r_40_22 h, i_40_23 h, r_40_24 h, r_40_25 h, r_40_26 h, r_40_27 h, r_40_28 h, i_40_29 h, r_40_30 h, r_40_31 h, r_40_32 h, r_40_33 h, r_40_34 h, r_40_35 h, r_40_36 h, r_40_37 h, i_40_38 h, i_40_39 h, i_40_40 h, i_40_41 h, i_40_42 h, i_40_43 h, i_40_44 h, i_40_45 h, r_40_46 h, r_40_47 h, r_40_48 h, r_40_49 h, r_40_50 h, r_40_51 h, r_40_52 h, r_40_53 h, r_40_54 h, r_40_55 h, r_40_56 h, r_40_57 h, r_40_58 h, i_40_59 h, i_40_60 h, r_40_61 h, o_40 h, M_isWord 40 _ _ (i_40_1 h), M_isPast 40 _ _ (i_40_0 h), c2]
  · cases c3 : inB m 0 (gi σ 40 11 0)
    · simp only [s_M_search_0, s_M_search_1, s_M_search_2, s_M_search_5, s_M_search_8, s_M_search_9, s_M_search_10, s_M_search_13, s_M_search_16, s_M_search_17, s_M_search_18, s_M_search_19, s_M_search_21, s_M_search_22, s_M_search_26, s_M_search_27, s_M_search_30, s_M_search_33, s_M_search_35, s_M_search_36, s_M_search_38, s_M_search_39, s_M_search_40, s_M_search_41, s_M_search_44, s_M_search_47, s_M_search_48, s_M_search_51, s_M_search_52, s_M_search_53, s_M_search_55, s_M_search_58, s_M_search_61, s_M_search_63, ↓reduceIte, Nat.reduceEqDiff, Nat.reduceLT, am_top, ax_f_some, ax_k_some, ax_k_none, s8_0, s8_1, s8_2, s8_3, s8_4, c2p_n, c2p_i, c2p_r, c2p_z, okvp_i, okvp_l, okvp_r, okvp_n, okvp_z, okvp_z0, okvp_z1, bi_narp, am_nar0p, am_nar1p, bi_0, bi_1, true_and, and_true, i_40_0 h, i_40_1 h, i_40_2 h, i_40_3 h, r_40_4 h, r_40_5 h, r_40_6 h, i_40_7 h, r_40_8 h, r_40_9 h, r_40_10 h, r_40_11 h, r_40_12 h, i_40_13 h, r_40_14 h, r_40_15 h, r_40_16 h, r_40_17 h, i_40_18 h, i_40_19 h, r_40_20 h, r_40_21 h, r_40_22 h, i_40_23 h, r_40_24 h, r_40_25 h, r_40_26 h, r_40_27 h, r_40_28 h, i_40_29 h, r_40_30 h, r_40_31 h, r_40_32 h, r_40_33 h, r_40_34 h, r_40_35 h, r_40_36 h, r_40_37 h, i_40_38 h, i_40_39 h, i_40_40 h, i_40_41 h, i_40_42 h, i_40_43 h, i_40_44 h, i_40_45 h, r_40_46 h, r_40_47 h, r_40_48 h, r_40_49 h, r_40_50 h, r_40_51 h, r_40_52 h, r_40_53 h, r_40_54 h, r_40_55 h, r_40_56 h, r_40_57 h, r_40_58 h, i_40_59 h, i_40_60 h, r_40_61 h, o_40 h, M_isWord 40 _ _ (i_40_1 h), M_isPast 40 _ _ (i_40_0 h), c2, c3, Bool.true_eq_false]
    · exact absurd ⟨c2, c3⟩ hno
theorem M_found_no (h : SH σ) {Q : Option Value → am_H → Prop} (word m i : Int32) (old : Bool) (hno : ¬ (inB word 0 (gi σ 40 11 1 - 1) = true ∧ inB m 0 (gi σ 40 11 0) = true)) : ax k_M_found 0 [some (.ref 40), some (.int word), some (.int m), some (.int (bi old)), some (.int i), none, none] [] σ Q = Q (some (.int (-1))) σ := by
  cases c2 : inB word 0 (gi σ 40 11 1 - 1)
  · simp only [s_M_found_0, s_M_found_1, s_M_found_2, s_M_found_5, s_M_found_8, s_M_found_9, s_M_found_10, s_M_found_13, s_M_found_16, s_M_found_17, s_M_found_18, s_M_found_19, s_M_found_21, s_M_found_22, s_M_found_26, s_M_found_27, s_M_found_30, s_M_found_33, s_M_found_34, s_M_found_36, s_M_found_37, s_M_found_38, s_M_found_39, s_M_found_42, s_M_found_45, s_M_found_48, s_M_found_50, s_M_found_52, s_M_found_55, s_M_found_57, s_M_found_58, s_M_found_61, s_M_found_64, s_M_found_67, s_M_found_68, ↓reduceIte, Nat.reduceEqDiff, Nat.reduceLT, am_top, ax_f_some, ax_k_some, ax_k_none, s8_0, s8_1, s8_2, s8_3, s8_4, c2p_n, c2p_i, c2p_r, c2p_z, okvp_i, okvp_l, okvp_r, okvp_n, okvp_z, okvp_z0, okvp_z1, bi_narp, am_nar0p, am_nar1p, bi_0, bi_1, true_and, and_true, i_40_0 h, i_40_1 h, i_40_2 h, i_40_3 h, r_40_4 h, r_40_5 h, r_40_6 h, i_40_7 h, r_40_8 h, r_40_9 h, r_40_10 h, r_40_11 h, r_40_12 h, i_40_13 h, r_40_14 h, r_40_15 h, r_40_16 h, r_40_17 h, i_40_18 h, i_40_19 h, r_40_20 h, r_40_21 h, r_40_22 h, i_40_23 h, r_40_24 h, r_40_25 h, r_40_26 h, r_40_27 h, r_40_28 h, i_40_29 h, r_40_30 h, r_40_31 h, r_40_32 h, r_40_33 h, r_40_34 h, r_40_35 h, r_40_36 h, r_40_37 h, i_40_38 h, i_40_39 h, i_40_40 h, i_40_41 h, i_40_42 h, i_40_43 h, i_40_44 h, i_40_45 h, r_40_46 h, r_40_47 h, r_40_48 h, r_40_49 h, r_40_50 h, r_40_51 h, r_40_52 h, r_40_53 h, r_40_54 h, r_40_55 h, r_40_56 h, r_40_57 h, r_40_58 h, i_40_59 h, i_40_60 h, r_40_61 h, o_40 h, M_isWord 40 _ _ (i_40_1 h), M_isPast 40 _ _ (i_40_0 h), c2]
  · cases c3 : inB m 0 (gi σ 40 11 0)
    · simp only [s_M_found_0, s_M_found_1, s_M_found_2, s_M_found_5, s_M_found_8, s_M_found_9, s_M_found_10, s_M_found_13, s_M_found_16, s_M_found_17, s_M_found_18, s_M_found_19, s_M_found_21, s_M_found_22, s_M_found_26, s_M_found_27, s_M_found_30, s_M_found_33, s_M_found_34, s_M_found_36, s_M_found_37, s_M_found_38, s_M_found_39, s_M_found_42, s_M_found_45, s_M_found_48, s_M_found_50, s_M_found_52, s_M_found_55, s_M_found_57, s_M_found_58, s_M_found_61, s_M_found_64, s_M_found_67, s_M_found_68, ↓reduceIte, Nat.reduceEqDiff, Nat.reduceLT, am_top, ax_f_some, ax_k_some, ax_k_none, s8_0, s8_1, s8_2, s8_3, s8_4, c2p_n, c2p_i, c2p_r, c2p_z, okvp_i, okvp_l, okvp_r, okvp_n, okvp_z, okvp_z0, okvp_z1, bi_narp, am_nar0p, am_nar1p, bi_0, bi_1, true_and, and_true, i_40_0 h, i_40_1 h, i_40_2 h, i_40_3 h, r_40_4 h, r_40_5 h, r_40_6 h, i_40_7 h, r_40_8 h, r_40_9 h, r_40_10 h, r_40_11 h, r_40_12 h, i_40_13 h, r_40_14 h, r_40_15 h, r_40_16 h, r_40_17 h, i_40_18 h, i_40_19 h, r_40_20 h, r_40_21 h, r_40_22 h, i_40_23 h, r_40_24 h, r_40_25 h, r_40_26 h, r_40_27 h, r_40_28 h, i_40_29 h, r_40_30 h, r_40_31 h, r_40_32 h, r_40_33 h, r_40_34 h, r_40_35 h, r_40_36 h, r_40_37 h, i_40_38 h, i_40_39 h, i_40_40 h, i_40_41 h, i_40_42 h, i_40_43 h, i_40_44 h, i_40_45 h, r_40_46 h, r_40_47 h, r_40_48 h, r_40_49 h, r_40_50 h, r_40_51 h, r_40_52 h, r_40_53 h, r_40_54 h, r_40_55 h, r_40_56 h, r_40_57 h, r_40_58 h, i_40_59 h, i_40_60 h, r_40_61 h, o_40 h, M_isWord 40 _ _ (i_40_1 h), M_isPast 40 _ _ (i_40_0 h), c2, c3, Bool.true_eq_false]
    · exact absurd ⟨c2, c3⟩ hno
theorem cap_T (C : Icp σ n np nc fp fw) (hn : n ≤ 40) (hnp : np ≤ 40) : ∀ i, i < nc → fp i < 40 ∧ fw i < 40 ∧ ga σ 19 i = nI (fp i * 40 + fw i) := by
  intro i hi
  have h := C.2.2.1 i hi
  exact ⟨by omega, by omega, h.2.1.1⟩
theorem MWd_of (W : Iwd σ n nt p) (C : Icp σ n np nc fp fw) : MWd σ p n nc := by
  have hn := W.2.1.1
  exact ⟨W.1.2.2, by omega, W.1.1.2, hn.1, C.1.2, C.2.1⟩
theorem pWs_fr (hS : SH σ) (m : Int32) (old : Bool) : FM [4, 15, 21, 59] [(40, 44)] [] σ (pWs σ n nt nc fp fw m old) := FM_l (FM_j (FM_refl hS) (by decide)) (by decide)
theorem c_has (I : INV L xs σ) (x w m : Int32) (old : Bool) : CA L xs .int σ (fun K => ax k_A_has 0 [some (.ref 0), some (.int x), some (.int w), some (.int m), some (.int (bi old))] [] σ K) (fun σ1 K => ax k_M_has 0 [some (.ref 40), some (.int x), some (.int w), some (.int m), some (.int (bi old))] [] σ1 K) := by
  intro K K2 h1 h2
  dsimp only at h1
  have I' := I
  obtain ⟨⟨hS, hR, hH⟩, hk, n, nt, p, np, nc, nl, ne, t, ns, q, fp, fw, W, P, C, Lv, E, T, Fa, R, X, S, U⟩ := I'
  have hn := W.2.1.1
  have hnp := P.2.1.1
  show ax k_A_has 0 _ [] σ K
  rw [A_has hS W.1.1.1 hn.1 W.1.2.1.1 hn.2.1 C.1.1 C.2.1 (cap_T C hn.1 hnp) P.1.1]
  have F := pWs_fr (n := n) (nt := nt) (nc := nc) (fp := fp) (fw := fw) hS m old
  have W1 := Iwd_fr F (by decide) W
  have P1 := Ipc_fr F (by decide) P
  have C1 := Icp_fr F (by decide) C
  have k1 := Ick_fr F (by decide) hk
  by_cases c : (ltB x (nI np) = true ∧ ltB w (nI n) = true) ∧ inB m 0 (gi σ 0 10 11) = true
  · obtain ⟨i, hi, rfl⟩ := ltB_ix (by omega) c.1.1
    obtain ⟨j, hj, rfl⟩ := ltB_ix (by omega) c.1.2
    obtain ⟨isO, hO, -, hb⟩ := srch F W P C hj m old
    rw [if_pos c, h1 _ _ F.1 (HI_fr F hH), M_has F.1 (MWd_of W1 C1) _ _ _ _ hO, hld_nI _ (by omega), hb i hi, if_pos]
    · exact h2 _ _ (INV_scr F I) (by constructor <;> simp only [pWs, aRec, aPar, put_1, put_2, set_1, set_2] <;> omega)
    · rw [P1.1.2, W1.1.1.2, ← ltB_in (by omega), ← ltB_in (by omega)]
      refine ⟨c.1, ?_⟩
      rw [gi_fr (a := 40) (ci := 11) (k := 0) F (by decide) (by decide) (by decide), ← hk.1]
      exact c.2
  · rw [if_neg c, h1 _ _ hS hH, M_has_no hS _ _ _ _ (by rw [P.1.2, W.1.1.2, ← ltB_in (by omega), ← ltB_in (by omega), ← hk.1]; exact c)]
    exact h2 _ _ I (Gr_refl σ)
theorem c_search (I : INV L xs σ) (w m : Int32) (old : Bool) : CA L xs .int σ (fun K => ax k_A_search 0 [some (.ref 0), some (.int w), some (.int m), some (.int (bi old))] [] σ K) (fun σ1 K => ax k_M_search 0 [some (.ref 40), some (.int w), some (.int m), some (.int (bi old)), none, none] [] σ1 K) := by
  intro K K2 h1 h2
  dsimp only at h1
  have I' := I
  obtain ⟨⟨hS, hR, hH⟩, hk, n, nt, p, np, nc, nl, ne, t, ns, q, fp, fw, W, P, C, Lv, E, T, Fa, R, X, S, U⟩ := I'
  have hn := W.2.1.1
  have hnp := P.2.1.1
  show ax k_A_search 0 _ [] σ K
  rw [A_search hS W.1.1.1 hn.1 W.1.2.1.1 hn.2.1 C.1.1 C.2.1 (cap_T C hn.1 hnp)]
  have F := pWs_fr (n := n) (nt := nt) (nc := nc) (fp := fp) (fw := fw) hS m old
  have W1 := Iwd_fr F (by decide) W
  have P1 := Ipc_fr F (by decide) P
  have C1 := Icp_fr F (by decide) C
  by_cases c : ltB w (nI n) = true ∧ inB m 0 (gi σ 0 10 11) = true
  · obtain ⟨j, hj, rfl⟩ := ltB_ix (by omega) c.1
    obtain ⟨isO, hO, hb, -⟩ := srch F W P C hj m old
    have e : cntF (bitL (pW σ n nt nc fp fw (nI j) m old)) 64 = cntF (mFinds (pWs σ n nt nc fp fw m old) nc n isO m old) np := by
      rw [show 64 = np + (64 - np) by omega, cntF_tail (n := np) (64 - np) (fun i h3 h4 => by rw [hb i (by omega), decide_eq_false (by omega)]; rfl)]
      exact cntF_ext np (fun i hi => by rw [hb i (by omega), decide_eq_true hi]; rfl)
    rw [if_pos c, h1 _ _ F.1 (HI_fr F hH), M_search F.1 (MWd_of W1 C1) P1.1.2 hnp _ _ _ hO, e, if_pos]
    · exact h2 _ _ (INV_scr F I) (by constructor <;> simp only [pWs, aRec, aPar, put_1, put_2, set_1, set_2] <;> omega)
    · rw [W1.1.1.2, ← ltB_in (by omega)]
      refine ⟨c.1, ?_⟩
      rw [gi_fr (a := 40) (ci := 11) (k := 0) F (by decide) (by decide) (by decide), ← hk.1]
      exact c.2
  · rw [if_neg c, h1 _ _ hS hH, M_search_no hS _ _ _ (by rw [W.1.1.2, ← ltB_in (by omega), ← hk.1]; exact c)]
    exact h2 _ _ I (Gr_refl σ)
theorem c_found (I : INV L xs σ) (w m : Int32) (old : Bool) (z : Int32) : CA L xs .int σ (fun K => ax k_A_found 0 [some (.ref 0), some (.int w), some (.int m), some (.int (bi old)), some (.int z), none, none, none, none] [] σ K) (fun σ1 K => ax k_M_found 0 [some (.ref 40), some (.int w), some (.int m), some (.int (bi old)), some (.int z), none, none] [] σ1 K) := by
  intro K K2 h1 h2
  dsimp only at h1
  have I' := I
  obtain ⟨⟨hS, hR, hH⟩, hk, n, nt, p, np, nc, nl, ne, t, ns, q, fp, fw, W, P, C, Lv, E, T, Fa, R, X, S, U⟩ := I'
  have hn := W.2.1.1
  have hnp := P.2.1.1
  show ax k_A_found 0 _ [] σ K
  rw [A_found hS W.1.1.1 hn.1 W.1.2.1.1 hn.2.1 C.1.1 C.2.1 (cap_T C hn.1 hnp)]
  have F := pWs_fr (n := n) (nt := nt) (nc := nc) (fp := fp) (fw := fw) hS m old
  have W1 := Iwd_fr F (by decide) W
  have P1 := Ipc_fr F (by decide) P
  have C1 := Icp_fr F (by decide) C
  by_cases c : ltB w (nI n) = true ∧ inB m 0 (gi σ 0 10 11) = true
  · obtain ⟨j, hj, rfl⟩ := ltB_ix (by omega) c.1
    obtain ⟨isO, hO, hb, -⟩ := srch F W P C hj m old
    have e : nthR (fun i => hldB (pW σ n nt nc fp fw (nI j) m old) (nI i)) z 0 40 0 = nthR (mFinds (pWs σ n nt nc fp fw m old) nc n isO m old) z 0 np 0 := by
      rw [show 40 = np + (40 - np) by omega, nthR_tail (d := 40 - np) np 0 0 (fun i h3 h4 => by rw [hld_nI _ (by omega), hb i (by omega), decide_eq_false (by omega)]; rfl)]
      exact nthR_ext np 0 0 (fun i _ hi => by rw [hld_nI _ (by omega), hb i (by omega), decide_eq_true (by omega)]; rfl)
    rw [if_pos c, h1 _ _ F.1 (HI_fr F hH), M_found F.1 (MWd_of W1 C1) P1.1.2 hnp _ _ _ _ hO, e, if_pos]
    · exact h2 _ _ (INV_scr F I) (by constructor <;> simp only [pWs, aRec, aPar, put_1, put_2, set_1, set_2] <;> omega)
    · rw [W1.1.1.2, ← ltB_in (by omega)]
      refine ⟨c.1, ?_⟩
      rw [gi_fr (a := 40) (ci := 11) (k := 0) F (by decide) (by decide) (by decide), ← hk.1]
      exact c.2
  · rw [if_neg c, h1 _ _ hS hH, M_found_no hS _ _ _ _ (by rw [W.1.1.2, ← ltB_in (by omega), ← hk.1]; exact c)]
    exact h2 _ _ I (Gr_refl σ)
theorem M_far_no (h : SH σ) {Q : Option Value → am_H → Prop} (x y : Int32) (hno : ¬ (inB x 0 (gi σ 40 11 7 - 1) = true ∧ inB y 0 (gi σ 40 11 7 - 1) = true)) : ax k_M_far 0 [some (.ref 40), some (.int x), some (.int y)] [] σ Q = Q (some (.int (-1))) σ := by
  cases c1 : inB x 0 (gi σ 40 11 7 - 1)
  · simp only [s_M_far_0, s_M_far_1, s_M_far_2, s_M_far_5, s_M_far_8, s_M_far_9, s_M_far_10, s_M_far_13, s_M_far_16, s_M_far_17, s_M_far_18, s_M_far_19, s_M_far_22, s_M_far_25, s_M_far_26, ↓reduceIte, Nat.reduceEqDiff, Nat.reduceLT, am_top, ax_f_some, ax_k_some, ax_k_none, s8_0, s8_1, s8_2, s8_3, s8_4, c2p_n, c2p_i, c2p_r, c2p_z, okvp_i, okvp_l, okvp_r, okvp_n, okvp_z, okvp_z0, okvp_z1, bi_narp, am_nar0p, am_nar1p, bi_0, bi_1, true_and, and_true, i_40_0 h, i_40_1 h, i_40_2 h, i_40_3 h, r_40_4 h, r_40_5 h, r_40_6 h, i_40_7 h, r_40_8 h, r_40_9 h, r_40_10 h, r_40_11 h, r_40_12 h, i_40_13 h, r_40_14 h, r_40_15 h, r_40_16 h, r_40_17 h, i_40_18 h, i_40_19 h, r_40_20 h, r_40_21 h, r_40_22 h, i_40_23 h, r_40_24 h, r_40_25 h, r_40_26 h, r_40_27 h, r_40_28 h, i_40_29 h, r_40_30 h, r_40_31 h, r_40_32 h, r_40_33 h, r_40_34 h, r_40_35 h, r_40_36 h, r_40_37 h, i_40_38 h, i_40_39 h, i_40_40 h, i_40_41 h, i_40_42 h, i_40_43 h, i_40_44 h, i_40_45 h, r_40_46 h, r_40_47 h, r_40_48 h, r_40_49 h, r_40_50 h, r_40_51 h, r_40_52 h, r_40_53 h, r_40_54 h, r_40_55 h, r_40_56 h, r_40_57 h, r_40_58 h, i_40_59 h, i_40_60 h, r_40_61 h, o_40 h, M_isPicture 40 _ _ (i_40_7 h), c1]
  · cases c2 : inB y 0 (gi σ 40 11 7 - 1)
    · simp only [s_M_far_0, s_M_far_1, s_M_far_2, s_M_far_5, s_M_far_8, s_M_far_9, s_M_far_10, s_M_far_13, s_M_far_16, s_M_far_17, s_M_far_18, s_M_far_19, s_M_far_22, s_M_far_25, s_M_far_26, ↓reduceIte, Nat.reduceEqDiff, Nat.reduceLT, am_top, ax_f_some, ax_k_some, ax_k_none, s8_0, s8_1, s8_2, s8_3, s8_4, c2p_n, c2p_i, c2p_r, c2p_z, okvp_i, okvp_l, okvp_r, okvp_n, okvp_z, okvp_z0, okvp_z1, bi_narp, am_nar0p, am_nar1p, bi_0, bi_1, true_and, and_true, i_40_0 h, i_40_1 h, i_40_2 h, i_40_3 h, r_40_4 h, r_40_5 h, r_40_6 h, i_40_7 h, r_40_8 h, r_40_9 h, r_40_10 h, r_40_11 h, r_40_12 h, i_40_13 h, r_40_14 h, r_40_15 h, r_40_16 h, r_40_17 h, i_40_18 h, i_40_19 h, r_40_20 h, r_40_21 h, r_40_22 h, i_40_23 h, r_40_24 h, r_40_25 h, r_40_26 h, r_40_27 h, r_40_28 h, i_40_29 h, r_40_30 h, r_40_31 h, r_40_32 h, r_40_33 h, r_40_34 h, r_40_35 h, r_40_36 h, r_40_37 h, i_40_38 h, i_40_39 h, i_40_40 h, i_40_41 h, i_40_42 h, i_40_43 h, i_40_44 h, i_40_45 h, r_40_46 h, r_40_47 h, r_40_48 h, r_40_49 h, r_40_50 h, r_40_51 h, r_40_52 h, r_40_53 h, r_40_54 h, r_40_55 h, r_40_56 h, r_40_57 h, r_40_58 h, i_40_59 h, i_40_60 h, r_40_61 h, o_40 h, M_isPicture 40 _ _ (i_40_7 h), c1, c2, Bool.true_eq_false]
    · exact absurd ⟨c1, c2⟩ hno
theorem c_far (I : INV L xs σ) (x y : Int32) : CA L xs .int σ (fun K => ax k_A_far 0 [some (.ref 0), some (.int x), some (.int y)] [] σ K) (fun σ1 K => ax k_M_far 0 [some (.ref 40), some (.int x), some (.int y)] [] σ1 K) := by
  intro K K2 h1 h2
  dsimp only at h1
  have I' := I
  obtain ⟨⟨hS, hR, hH⟩, hk, n, nt, p, np, nc, nl, ne, t, ns, q, fp, fw, W, P, C, Lv, E, T, Fa, R, X, S, U⟩ := I'
  have hnp := P.2.1.1
  show ax k_A_far 0 _ [] σ K
  rw [A_far hS P.1.1 hnp, h1 _ _ hS hH]
  by_cases c : ltB x (nI np) = true ∧ ltB y (nI np) = true
  · obtain ⟨i, hi, rfl⟩ := ltB_ix (by omega) c.1
    obtain ⟨j, hj, rfl⟩ := ltB_ix (by omega) c.2
    rw [if_pos c, M_far hS P.1.2 hnp hi hj, nI_clamp (by omega), nI_clamp (by omega), P.2.1.2.2.1 i j hi hj]
    exact h2 _ _ I (Gr_refl σ)
  · rw [if_neg c, M_far_no hS _ _ (by rw [P.1.2, ← ltB_in (by omega), ← ltB_in (by omega)]; exact c)]
    exact h2 _ _ I (Gr_refl σ)
theorem c_limit (I : INV L xs σ) (v : Int32) : CA L xs .int σ (fun K => ax k_A_limit 0 [some (.ref 0), some (.int v)] [] σ K) (fun σ1 K => ax k_M_limit 0 [some (.ref 40), some (.int v)] [] σ1 K) := by
  intro K K2 h1 h2
  dsimp only at h1
  have I' := I
  obtain ⟨⟨hS, hR, hH⟩, hk, n, nt, p, np, nc, nl, ne, t, ns, q, fp, fw, W, P, C, Lv, E, T, Fa, R, X, S, U⟩ := I'
  show ax k_A_limit 0 _ [] σ K
  rw [A_limit hS]
  by_cases c : inB v 0 240 = true
  · have F : FM [] [(9, 7), (40, 18)] [] σ (am_put σ 9 7 (.int v)) := FM_p 0 (FM_refl hS) (by decide)
    have F2 : FM [] [(9, 7), (40, 18)] [] σ (am_put (am_put σ 9 7 (.int v)) 40 18 (.int v)) := FM_p 11 F (by decide)
    rw [if_pos c, h1 _ _ F.1 (HI_fr F hH), M_limit F.1, if_pos c]
    refine h2 _ _ ⟨⟨F2.1, R30_fr F2 (by decide) hR, HI_fr F2 hH⟩, Ick_fr F2 (by decide) hk, n, nt, p, np, nc, nl, ne, t, ns, q, fp, fw, Iwd_fr F2 (by decide) W, ?_, Icp_fr F2 (by decide) C, Ilv_fr F2 (by decide) Lv, Iem_fr F2 (by decide) E, Itp_fr F2 (by decide) T, Ift_fr F2 (by decide) Fa, Irt_fr F2 (by decide) R, TXS_fr F2 (by decide) (fun B s hB => by simp at hB) X, Isl_fr F2 (by decide) (Nat.le_refl _) P.2.1.1 (fun i _ => by rw [ga_fr F2 (by decide) (by decide)]) S, Ipr_fr F2 (by decide) U⟩ (by constructor <;> simp only [ put_1, put_2, set_1, set_2] <;> omega)
    simp only [Ipc, gi_put_ne, gi_put_k, gi_put_o, gi_set_ne, ga_put, ga_set_ne, ga_set_eq, gL_put, gL_set_ne, gL_set_eq, gq_put, gq_set_ne, gq_set_eq, fld_set_ne, fld_put_ne, fld_put_k, fld_put_same, Option.map_some, Option.elim_some, Nat.reduceEqDiff, not_false_eq_true, i_40_18 hS, i_9_7 hS]
    exact ⟨P.1, P.2.1, (by trivial)⟩
  · rw [if_neg c, h1 _ _ hS hH, M_limit hS, if_neg c]
    exact h2 _ _ I (Gr_refl σ)
theorem firR_ext {g g' tk tk' : Nat → Int32} : ∀ n, n < 1000 → (∀ j, j < n → ((g j = 0) = (g' j = 0)) ∧ tk j = tk' j) → firR g tk n = firR g' tk' n := by
  intro n
  induction n with
  | zero => intro _ _; rfl
  | succ n ih =>
    intro hn h
    have e := ih (by omega) (fun j hj => h j (by omega))
    obtain ⟨h1, h2⟩ := h n (by omega)
    simp only [firR]
    rw [e]
    simp only [h1, h2]
    rcases firR_in g' tk' n (by omega) with z | ⟨i, hi, z⟩
    · rw [z]
      simp only [show ((-1 : Int32) < 0) = True from eq_true (by decide), if_true]
    · rw [z, nI_clamp (by omega), (h i (by omega)).2]
theorem set_fr {W : List Nat} {V : List (Nat × Nat)} {Y : List Nat} (F : FM W V Y σ τ) (h : (∀ x ∈ [40, 48, 59], ¬ x ∈ W) ∧ ¬ (40, 18) ∈ V) (N : Nat) (x : Int32) : mSpr τ np N x = mSpr σ np N x := by
  have e : mLk τ = mLk σ := by
    funext i j
    unfold mLk
    rw [gi_fr (a := 40) (ci := 11) (k := 18) F (by decide) (h.1 _ (by decide)) h.2, ga_fr (a := 48) F (by decide) (h.1 _ (by decide))]
  unfold mSpr
  rw [e, ga_fr (a := 59) F (by decide) (h.1 _ (by decide))]
theorem c_set (I : INV L xs σ) (x w : Int32) : CA L xs .int σ (fun K => ax k_A_set 0 [some (.ref 0), some (.int x), some (.int w)] [] σ K) (fun σ1 K => ax k_M_set 0 [some (.ref 40), some (.int x), some (.int w), none, none, none] [] σ1 K) := by
  intro K K2 h1 h2
  dsimp only at h1
  have I' := I
  obtain ⟨⟨hS, hR, hH⟩, hk, n, nt, p, np, nc, nl, ne, t, ns, q, fp, fw, W, P, C, Lv, E, T, Fa, R, X, S, U⟩ := I'
  have hnp := P.2.1.1
  show ax k_A_set 0 _ [] σ K
  by_cases c : ltB x (nI np) = true
  · obtain ⟨i, hi, rfl⟩ := ltB_ix (by omega) c
    have c' : inB (nI i) 0 (nI np - 1) = true := by rw [← ltB_in (by omega)]; exact c
    obtain ⟨N, g, hg, hgi, hb⟩ := set_eq P.2.1 P.2.2 hi
    have F : FM [15] [] [] σ (aChn σ (setB σ np i).2.1) := FM_j (FM_refl hS) (by decide)
    have Fs : FM [4, 15, 21, 59] [(40, 44)] [] σ (mSet (aChn σ (setB σ np i).2.1) g) := FM_j (FM_j (FM_refl hS) (by decide)) (by decide)
    have Fm : FM [4, 15, 21, 59] [(40, 44)] [] σ (mSet σ g) := FM_j (FM_refl hS) (by decide)
    have e7 : gi (aChn σ (setB σ np i).2.1) 40 11 7 = nI np := by rw [gi_fr F (by decide) (by decide) (by decide)]; exact P.1.2
    have eg : inB (nI i) 0 (nI np - 1) = true → mSpr (aChn σ (setB σ np i).2.1) np N (nI i) = some g := by
      intro _
      rw [set_fr F (by decide)]
      exact hg
    have e45 : ga (aChn σ (setB σ np i).2.1) 45 = ga σ 45 := ga_fr F (by decide) (by decide)
    have hz : ∀ j, j < np → ((bi (hldB (setB σ np i).1 (nI j)) = 0) = (g j = 0)) := by
      intro j hj
      rw [hld_nI _ (by omega), hb j (by omega), decide_eq_true hj, Bool.true_and]
      by_cases d : g j = 0 <;> simp [d, bi]
    rw [A_set hS P.1.1 hnp hi]
    by_cases c0 : w = 0
    · subst c0
      rw [if_pos rfl, h1 _ _ F.1 (HI_fr F hH), M_set F.1 e7 hnp _ _ eg, if_pos ⟨c', by decide⟩, if_pos rfl, e45]
      have e : firA σ (setB σ np i).1 np = firR g (ga σ 45) np := firR_ext np (by omega) (fun j hj => ⟨hz j hj, (P.2.1.2.1 j hj).1.2.1⟩)
      rw [e]
      exact h2 _ _ (INV_scr Fs I) (by constructor <;> simp only [mSet, aChn, put_1, put_2, set_1, set_2] <;> omega)
    · by_cases c1 : w = 1
      · subst c1
        rw [if_neg c0, if_pos rfl, h1 _ _ F.1 (HI_fr F hH), M_set F.1 e7 hnp _ _ eg, if_pos ⟨c', by decide⟩, if_neg c0]
        have e : cntF (bitL (setB σ np i).1) 64 = cntF (fun j => !decide (g j = 0)) np := by
          rw [show 64 = np + (64 - np) by omega, cntF_tail (n := np) (64 - np) (fun j h3 h4 => by rw [hb j (by omega), decide_eq_false (by omega)]; rfl)]
          exact cntF_ext np (fun j hj => by rw [hb j (by omega), decide_eq_true hj]; rfl)
        rw [e]
        exact h2 _ _ (INV_scr Fs I) (by constructor <;> simp only [mSet, aChn, put_1, put_2, set_1, set_2] <;> omega)
      · have c2 : ¬ inB w 0 1 = true := by
          intro z
          obtain ⟨v, -, hv, rfl⟩ := inB_nat (lo := 0) (hi := 1) (by decide) (by decide) z
          rcases (show v = 0 ∨ v = 1 by omega) with e | e
          · exact c0 (by rw [e]; rfl)
          · exact c1 (by rw [e]; rfl)
        rw [if_neg c0, if_neg c1, h1 _ _ hS hH, M_set hS P.1.2 hnp _ _ (n := N) (g := g) (fun _ => hg), if_neg (fun z => c2 z.2)]
        exact h2 _ _ I (Gr_refl σ)
  · have c' : ¬ inB x 0 (nI np - 1) = true := by rw [← ltB_in (by omega)]; exact c
    rw [A_set_no hS P.1.1 (by simpa using c), h1 _ _ hS hH, M_set hS P.1.2 hnp _ _ (n := 0) (g := fun _ => 0) (fun z => absurd z c'), if_neg (fun z => c' z.1)]
    exact h2 _ _ I (Gr_refl σ)
end K3
