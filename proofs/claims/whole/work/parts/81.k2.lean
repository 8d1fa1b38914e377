/-! THE CALLS ON BOTH SIDES, 2: put, picture, caption -/
section K2
variable {L : Nat} {xs : Nat → Int32} {σ : am_H}
theorem M_put_no1 (h : SH σ) {nw : Nat} {Q : Option Value → am_H → Prop} (hw : gi σ 40 11 1 = nI nw) (w i : Int32) (c1 : inB w 0 (nI nw - 1) = false) : ax k_M_put 0 [some (.ref 40), some (.int w), some (.int i)] [] σ Q = Q (some (.int 0)) σ := by
  simp only [s_M_put_0, s_M_put_1, s_M_put_2, s_M_put_5, s_M_put_8, s_M_put_9, s_M_put_10, s_M_put_13, s_M_put_14, s_M_put_15, s_M_put_18, s_M_put_21, s_M_put_22, s_M_put_23, s_M_put_24, s_M_put_25, s_M_put_28, s_M_put_31, s_M_put_34, s_M_put_35, s_M_put_38, s_M_put_40, s_M_put_43, s_M_put_44, s_M_put_45, s_M_put_46, s_M_put_47, s_M_put_48, s_M_put_51, s_M_put_52, s_M_put_53, s_M_put_56, s_M_put_57, s_M_put_58, s_M_put_61, s_M_put_62, ↓reduceIte, Nat.reduceEqDiff, Nat.reduceLT, am_top, ax_f_some, ax_k_some, ax_k_none, s8_0, s8_1, s8_2, s8_3, s8_4, c2p_n, c2p_i, c2p_r, c2p_z, okvp_i, okvp_l, okvp_r, okvp_n, okvp_z, okvp_z0, okvp_z1, bi_narp, am_nar0p, am_nar1p, bi_0, bi_1, true_and, and_true, fld_set_ne, j_set_ne, q_set_ne, lv_set_ne, nv_set_ne, is_set_ne, j_set_eq, lv_set_eq, q_set_eq, nv_set_i, nv_set_l, nv_set_q, fld_put_ne, fld_put_k, fld_put_same, Option.map_some, j_put, q_put, lv_put, nv_put, is_put, put_1, set_1, i_40_0 h, i_40_1 h, i_40_2 h, i_40_3 h, r_40_4 h, r_40_5 h, r_40_6 h, i_40_7 h, r_40_8 h, r_40_9 h, r_40_10 h, r_40_11 h, r_40_12 h, i_40_13 h, r_40_14 h, r_40_15 h, r_40_16 h, r_40_17 h, i_40_18 h, i_40_19 h, r_40_20 h, r_40_21 h, r_40_22 h, i_40_23 h, r_40_24 h, r_40_25 h, r_40_26 h, r_40_27 h, r_40_28 h, i_40_29 h, r_40_30 h, r_40_31 h, r_40_32 h, r_40_33 h, r_40_34 h, r_40_35 h, r_40_36 h, r_40_37 h, i_40_38 h, i_40_39 h, i_40_40 h, i_40_41 h, i_40_42 h, i_40_43 h, i_40_44 h, i_40_45 h, r_40_46 h, r_40_47 h, r_40_48 h, r_40_49 h, r_40_50 h, r_40_51 h, r_40_52 h, r_40_53 h, r_40_54 h, r_40_55 h, r_40_56 h, r_40_57 h, r_40_58 h, i_40_59 h, i_40_60 h, r_40_61 h, o_40 h, j_41 h, n_41 h, j_42 h, n_42 h, j_43 h, n_43 h, hw, M_isWord 40 _ _ (i_40_1 h), c1]
theorem M_put_no (h : SH σ) {p nw nt : Nat} {Q : Option Value → am_H → Prop} (hp : gi σ 40 11 2 = nI p) (hlt : p ≤ 140) (hw : gi σ 40 11 1 = nI nw) (ht : gi σ 40 11 3 = nI nt) (hnt : nt ≤ 100) (w i : Int32) {n : Nat} {b : Bool} (hb : inB i 0 (nI nw - 1) = true → upF (mLies σ p (gi σ 40 11 0)) w n i = some b) (hno : ¬ ((inB w 0 (nI nw - 1) = true ∧ (i = -1 ∨ (inB i 0 (nI nw - 1) = true ∧ b = false))) ∧ ¬ nt = 100)) : ax k_M_put 0 [some (.ref 40), some (.int w), some (.int i)] [] σ Q = Q (some (.int 0)) σ := by
  cases c1 : inB w 0 (nI nw - 1)
  · exact M_put_no1 h hw w i c1
  · by_cases c2 : i = -1
    · have c3 : nt = 100 := Classical.byContradiction fun z => hno ⟨⟨c1, Or.inl c2⟩, z⟩
      subst c3
      simp only [s_M_put_0, s_M_put_1, s_M_put_2, s_M_put_5, s_M_put_8, s_M_put_9, s_M_put_10, s_M_put_13, s_M_put_14, s_M_put_15, s_M_put_18, s_M_put_21, s_M_put_22, s_M_put_23, s_M_put_24, s_M_put_25, s_M_put_28, s_M_put_31, s_M_put_34, s_M_put_35, s_M_put_38, s_M_put_40, s_M_put_43, s_M_put_44, s_M_put_45, s_M_put_46, s_M_put_47, s_M_put_48, s_M_put_51, s_M_put_52, s_M_put_53, s_M_put_56, s_M_put_57, s_M_put_58, s_M_put_61, s_M_put_62, ↓reduceIte, Nat.reduceEqDiff, Nat.reduceLT, am_top, ax_f_some, ax_k_some, ax_k_none, s8_0, s8_1, s8_2, s8_3, s8_4, c2p_n, c2p_i, c2p_r, c2p_z, okvp_i, okvp_l, okvp_r, okvp_n, okvp_z, okvp_z0, okvp_z1, bi_narp, am_nar0p, am_nar1p, bi_0, bi_1, true_and, and_true, fld_set_ne, j_set_ne, q_set_ne, lv_set_ne, nv_set_ne, is_set_ne, j_set_eq, lv_set_eq, q_set_eq, nv_set_i, nv_set_l, nv_set_q, fld_put_ne, fld_put_k, fld_put_same, Option.map_some, j_put, q_put, lv_put, nv_put, is_put, put_1, set_1, i_40_0 h, i_40_1 h, i_40_2 h, i_40_3 h, r_40_4 h, r_40_5 h, r_40_6 h, i_40_7 h, r_40_8 h, r_40_9 h, r_40_10 h, r_40_11 h, r_40_12 h, i_40_13 h, r_40_14 h, r_40_15 h, r_40_16 h, r_40_17 h, i_40_18 h, i_40_19 h, r_40_20 h, r_40_21 h, r_40_22 h, i_40_23 h, r_40_24 h, r_40_25 h, r_40_26 h, r_40_27 h, r_40_28 h, i_40_29 h, r_40_30 h, r_40_31 h, r_40_32 h, r_40_33 h, r_40_34 h, r_40_35 h, r_40_36 h, r_40_37 h, i_40_38 h, i_40_39 h, i_40_40 h, i_40_41 h, i_40_42 h, i_40_43 h, i_40_44 h, i_40_45 h, r_40_46 h, r_40_47 h, r_40_48 h, r_40_49 h, r_40_50 h, r_40_51 h, r_40_52 h, r_40_53 h, r_40_54 h, r_40_55 h, r_40_56 h, r_40_57 h, r_40_58 h, i_40_59 h, i_40_60 h, r_40_61 h, o_40 h, hw, ht, M_isWord 40 _ _ (i_40_1 h), c1, c2, e100, Bool.true_eq_false]
    · cases c4 : inB i 0 (nI nw - 1)
      · simp only [s_M_put_0, s_M_put_1, s_M_put_2, s_M_put_5, s_M_put_8, s_M_put_9, s_M_put_10, s_M_put_13, s_M_put_14, s_M_put_15, s_M_put_18, s_M_put_21, s_M_put_22, s_M_put_23, s_M_put_24, s_M_put_25, s_M_put_28, s_M_put_31, s_M_put_34, s_M_put_35, s_M_put_38, s_M_put_40, s_M_put_43, s_M_put_44, s_M_put_45, s_M_put_46, s_M_put_47, s_M_put_48, s_M_put_51, s_M_put_52, s_M_put_53, s_M_put_56, s_M_put_57, s_M_put_58, s_M_put_61, s_M_put_62, ↓reduceIte, Nat.reduceEqDiff, Nat.reduceLT, am_top, ax_f_some, ax_k_some, ax_k_none, s8_0, s8_1, s8_2, s8_3, s8_4, c2p_n, c2p_i, c2p_r, c2p_z, okvp_i, okvp_l, okvp_r, okvp_n, okvp_z, okvp_z0, okvp_z1, bi_narp, am_nar0p, am_nar1p, bi_0, bi_1, true_and, and_true, fld_set_ne, j_set_ne, q_set_ne, lv_set_ne, nv_set_ne, is_set_ne, j_set_eq, lv_set_eq, q_set_eq, nv_set_i, nv_set_l, nv_set_q, fld_put_ne, fld_put_k, fld_put_same, Option.map_some, j_put, q_put, lv_put, nv_put, is_put, put_1, set_1, i_40_0 h, i_40_1 h, i_40_2 h, i_40_3 h, r_40_4 h, r_40_5 h, r_40_6 h, i_40_7 h, r_40_8 h, r_40_9 h, r_40_10 h, r_40_11 h, r_40_12 h, i_40_13 h, r_40_14 h, r_40_15 h, r_40_16 h, r_40_17 h, i_40_18 h, i_40_19 h, r_40_20 h, r_40_21 h, r_40_22 h, i_40_23 h, r_40_24 h, r_40_25 h, r_40_26 h, r_40_27 h, r_40_28 h, i_40_29 h, r_40_30 h, r_40_31 h, r_40_32 h, r_40_33 h, r_40_34 h, r_40_35 h, r_40_36 h, r_40_37 h, i_40_38 h, i_40_39 h, i_40_40 h, i_40_41 h, i_40_42 h, i_40_43 h, i_40_44 h, i_40_45 h, r_40_46 h, r_40_47 h, r_40_48 h, r_40_49 h, r_40_50 h, r_40_51 h, r_40_52 h, r_40_53 h, r_40_54 h, r_40_55 h, r_40_56 h, r_40_57 h, r_40_58 h, i_40_59 h, i_40_60 h, r_40_61 h, o_40 h, hw, ht, M_isWord 40 _ _ (i_40_1 h), c1, c2, c4, Bool.true_eq_false]
      · have hb := hb c4
        cases b
        · have c3 : nt = 100 := Classical.byContradiction fun z => hno ⟨⟨c1, Or.inr ⟨c4, rfl⟩⟩, z⟩
          subst c3
          simp only [s_M_put_0, s_M_put_1, s_M_put_2, s_M_put_5, s_M_put_8, s_M_put_9, s_M_put_10, s_M_put_13, s_M_put_14, s_M_put_15, s_M_put_18, s_M_put_21, s_M_put_22, s_M_put_23, s_M_put_24, s_M_put_25, s_M_put_28, s_M_put_31, s_M_put_34, s_M_put_35, s_M_put_38, s_M_put_40, s_M_put_43, s_M_put_44, s_M_put_45, s_M_put_46, s_M_put_47, s_M_put_48, s_M_put_51, s_M_put_52, s_M_put_53, s_M_put_56, s_M_put_57, s_M_put_58, s_M_put_61, s_M_put_62, ↓reduceIte, Nat.reduceEqDiff, Nat.reduceLT, am_top, ax_f_some, ax_k_some, ax_k_none, s8_0, s8_1, s8_2, s8_3, s8_4, c2p_n, c2p_i, c2p_r, c2p_z, okvp_i, okvp_l, okvp_r, okvp_n, okvp_z, okvp_z0, okvp_z1, bi_narp, am_nar0p, am_nar1p, bi_0, bi_1, true_and, and_true, fld_set_ne, j_set_ne, q_set_ne, lv_set_ne, nv_set_ne, is_set_ne, j_set_eq, lv_set_eq, q_set_eq, nv_set_i, nv_set_l, nv_set_q, fld_put_ne, fld_put_k, fld_put_same, Option.map_some, j_put, q_put, lv_put, nv_put, is_put, put_1, set_1, i_40_0 h, i_40_1 h, i_40_2 h, i_40_3 h, r_40_4 h, r_40_5 h, r_40_6 h, i_40_7 h, r_40_8 h, r_40_9 h, r_40_10 h, r_40_11 h, r_40_12 h, i_40_13 h, r_40_14 h, r_40_15 h, r_40_16 h, r_40_17 h, i_40_18 h, i_40_19 h, r_40_20 h, r_40_21 h, r_40_22 h, i_40_23 h, r_40_24 h, r_40_25 h, r_40_26 h, r_40_27 h, r_40_28 h, i_40_29 h, r_40_30 h, r_40_31 h, r_40_32 h, r_40_33 h, r_40_34 h, r_40_35 h, r_40_36 h, r_40_37 h, i_40_38 h, i_40_39 h, i_40_40 h, i_40_41 h, i_40_42 h, i_40_43 h, i_40_44 h, i_40_45 h, r_40_46 h, r_40_47 h, r_40_48 h, r_40_49 h, r_40_50 h, r_40_51 h, r_40_52 h, r_40_53 h, r_40_54 h, r_40_55 h, r_40_56 h, r_40_57 h, r_40_58 h, i_40_59 h, i_40_60 h, r_40_61 h, o_40 h, hw, ht, M_isWord 40 _ _ (i_40_1 h), M_isOf h hp hlt _ _ _ hb, c1, c2, c4, e100, Bool.true_eq_false]
        · simp only [s_M_put_0, s_M_put_1, s_M_put_2, s_M_put_5, s_M_put_8, s_M_put_9, s_M_put_10, s_M_put_13, s_M_put_14, s_M_put_15, s_M_put_18, s_M_put_21, s_M_put_22, s_M_put_23, s_M_put_24, s_M_put_25, s_M_put_28, s_M_put_31, s_M_put_34, s_M_put_35, s_M_put_38, s_M_put_40, s_M_put_43, s_M_put_44, s_M_put_45, s_M_put_46, s_M_put_47, s_M_put_48, s_M_put_51, s_M_put_52, s_M_put_53, s_M_put_56, s_M_put_57, s_M_put_58, s_M_put_61, s_M_put_62, ↓reduceIte, Nat.reduceEqDiff, Nat.reduceLT, am_top, ax_f_some, ax_k_some, ax_k_none, s8_0, s8_1, s8_2, s8_3, s8_4, c2p_n, c2p_i, c2p_r, c2p_z, okvp_i, okvp_l, okvp_r, okvp_n, okvp_z, okvp_z0, okvp_z1, bi_narp, am_nar0p, am_nar1p, bi_0, bi_1, true_and, and_true, fld_set_ne, j_set_ne, q_set_ne, lv_set_ne, nv_set_ne, is_set_ne, j_set_eq, lv_set_eq, q_set_eq, nv_set_i, nv_set_l, nv_set_q, fld_put_ne, fld_put_k, fld_put_same, Option.map_some, j_put, q_put, lv_put, nv_put, is_put, put_1, set_1, i_40_0 h, i_40_1 h, i_40_2 h, i_40_3 h, r_40_4 h, r_40_5 h, r_40_6 h, i_40_7 h, r_40_8 h, r_40_9 h, r_40_10 h, r_40_11 h, r_40_12 h, i_40_13 h, r_40_14 h, r_40_15 h, r_40_16 h, r_40_17 h, i_40_18 h, i_40_19 h, r_40_20 h, r_40_21 h, r_40_22 h, i_40_23 h, r_40_24 h, r_40_25 h, r_40_26 h, r_40_27 h, r_40_28 h, i_40_29 h, r_40_30 h, r_40_31 h, r_40_32 h, r_40_33 h, r_40_34 h, r_40_35 h, r_40_36 h, r_40_37 h, i_40_38 h, i_40_39 h, i_40_40 h, i_40_41 h, i_40_42 h, i_40_43 h, i_40_44 h, i_40_45 h, r_40_46 h, r_40_47 h, r_40_48 h, r_40_49 h, r_40_50 h, r_40_51 h, r_40_52 h, r_40_53 h, r_40_54 h, r_40_55 h, r_40_56 h, r_40_57 h, r_40_58 h, i_40_59 h, i_40_60 h, r_40_61 h, o_40 h, hw, ht, M_isWord 40 _ _ (i_40_1 h), M_isOf h hp hlt _ _ _ hb, c1, c2, c4, Bool.true_eq_false]
theorem anc_m1 {P : Int32 → Int32} {t : Int32} (h : Anc P (-1) t) : False := by
  obtain ⟨k, h, -⟩ := h
  exact h 0 (Nat.zero_le _) (show (-1 : Int32) < 0 by decide)
theorem c_put (I : INV L xs σ) (w i : Int32) : CA L xs .int σ (fun K => ax k_A_put 0 [some (.ref 0), some (.int w), some (.int i)] [] σ K) (fun σ1 K => ax k_M_put 0 [some (.ref 40), some (.int w), some (.int i)] [] σ1 K) := by
  intro K K2 h1 h2
  dsimp only at h1
  have I' := I
  obtain ⟨⟨hS, hR, hH⟩, hk, n, nt, p, np, nc, nl, ne, t, ns, q, fp, fw, W, P, C, Lv, E, T, Fa, R, X, S, U⟩ := I'
  obtain ⟨⟨⟨w1, w2⟩, ⟨w3, w4⟩, w5⟩, B, Ee⟩ := W
  have hn := B.1
  show ax k_A_put 0 _ [] σ K
  rw [A_put hS w1 hn.1 w3 hn.2.1]
  by_cases c : ltB w (nI n) = true ∧ (i = -1 ∨ ltB i (nI n) = true)
  · rw [if_pos c, hk.1]
    obtain ⟨j, hj, rfl⟩ := ltB_ix (by omega) c.1
    have hi : inW n i := inW_of hn.1 c.2
    have c2 : i = -1 ∨ inB i 0 (nI n - 1) = true := by rw [← ltB_in (by omega) i]; exact c.2
    have c1 : inB (nI j) 0 (nI n - 1) = true := by rw [← ltB_in (by omega)]; exact c.1
    obtain ⟨isO, hO⟩ := ex_down Ee hi hn.1 (gi σ 40 11 0)
    obtain ⟨⟨N, hN⟩, hA⟩ := hO j hj
    have hb : hldB (clR (rcF σ n nt (gi σ 40 11 0)) n 40 i 0) (nI j) = isO j := by
      rw [hld_nI _ (by omega)]
      apply bool_ext
      refine (chain_bit (w := j) hn.1 (fun y hy => par_eq B (ga σ 4) (gi σ 40 11 0) hy) (Clo_of B _) hi (BE_in Ee hi _) (by omega)).trans ?_
      rw [hA]
      exact ⟨fun z => z.2, fun z => ⟨hj, z⟩⟩
    have F : FM [4, 6, 7, 8, 41, 42, 43] [(5, 3), (40, 2), (40, 3)] [] σ (aPar σ (rcF σ n nt (gi σ 40 11 0))) := FM_j (FM_refl hS) (by decide)
    have Fs : FM [4, 15, 21, 59] [(40, 44)] [] σ (aPar σ (rcF σ n nt (gi σ 40 11 0))) := FM_j (FM_refl hS) (by decide)
    have up : ∀ {τ : am_H}, FM [4, 6, 7, 8, 41, 42, 43] [(5, 3), (40, 2), (40, 3)] [] σ τ → ga τ 41 = ga σ 41 → ga τ 42 = ga σ 42 → ga τ 43 = ga σ 43 → (inB i 0 (nI n - 1) = true → upF (mLies τ p (gi τ 40 11 0)) (nI j) N i = some (isO j)) := by
      intro τ G e1 e2 e3 _
      have e : mLies τ p (gi τ 40 11 0) = mLies σ p (gi σ 40 11 0) := by
        funext x
        unfold mLies
        rw [e1, e2, e3, gi_fr (a := 40) (ci := 11) (k := 0) G (by decide) (by decide) (by decide)]
      rw [e]
      exact hN
    have f5 : gi (aPar σ (rcF σ n nt (gi σ 40 11 0))) 40 11 2 = nI p := by simp only [aPar, gi_put_ne, gi_put_k, gi_put_o, gi_set_ne, ga_put, ga_set_ne, ga_set_eq, gL_put, gL_set_ne, gL_set_eq, gq_put, gq_set_ne, gq_set_eq, fld_set_ne, fld_put_ne, fld_put_k, fld_put_same, Option.map_some, Option.elim_some, Nat.reduceEqDiff, not_false_eq_true]; exact w5
    have f2 : gi (aPar σ (rcF σ n nt (gi σ 40 11 0))) 40 11 1 = nI n := by simp only [aPar, gi_put_ne, gi_put_k, gi_put_o, gi_set_ne, ga_put, ga_set_ne, ga_set_eq, gL_put, gL_set_ne, gL_set_eq, gq_put, gq_set_ne, gq_set_eq, fld_set_ne, fld_put_ne, fld_put_k, fld_put_same, Option.map_some, Option.elim_some, Nat.reduceEqDiff, not_false_eq_true]; exact w2
    have f4 : gi (aPar σ (rcF σ n nt (gi σ 40 11 0))) 40 11 3 = nI nt := by simp only [aPar, gi_put_ne, gi_put_k, gi_put_o, gi_set_ne, ga_put, ga_set_ne, ga_set_eq, gL_put, gL_set_ne, gL_set_eq, gq_put, gq_set_ne, gq_set_eq, fld_set_ne, fld_put_ne, fld_put_k, fld_put_same, Option.map_some, Option.elim_some, Nat.reduceEqDiff, not_false_eq_true]; exact w4
    have upF0 := up F (by simp only [aPar, gi_put_ne, gi_put_k, gi_put_o, gi_set_ne, ga_put, ga_set_ne, ga_set_eq, gL_put, gL_set_ne, gL_set_eq, gq_put, gq_set_ne, gq_set_eq, fld_set_ne, fld_put_ne, fld_put_k, fld_put_same, Option.map_some, Option.elim_some, Nat.reduceEqDiff, not_false_eq_true]) (by simp only [aPar, gi_put_ne, gi_put_k, gi_put_o, gi_set_ne, ga_put, ga_set_ne, ga_set_eq, gL_put, gL_set_ne, gL_set_eq, gq_put, gq_set_ne, gq_set_eq, fld_set_ne, fld_put_ne, fld_put_k, fld_put_same, Option.map_some, Option.elim_some, Nat.reduceEqDiff, not_false_eq_true]) (by simp only [aPar, gi_put_ne, gi_put_k, gi_put_o, gi_set_ne, ga_put, ga_set_ne, ga_set_eq, gL_put, gL_set_ne, gL_set_eq, gq_put, gq_set_ne, gq_set_eq, fld_set_ne, fld_put_ne, fld_put_k, fld_put_same, Option.map_some, Option.elim_some, Nat.reduceEqDiff, not_false_eq_true])
    rw [hb]
    by_cases d : isO j = true
    · rw [if_pos d, h1 _ _ F.1 (HI_fr F hH), M_put_no F.1 f5 (by omega) f2 f4 hn.2.1 _ _ upF0 (by
        intro z
        rcases z.1.2 with z | z
        · subst z
          exact anc_m1 (hA.mp d)
        · rw [d] at z
          cases z.2)]
      exact h2 _ _ (INV_scr Fs I) (by constructor <;> simp only [aPar, put_1, put_2, set_1, set_2] <;> omega)
    · rw [if_neg d]
      by_cases d2 : nt = 100
      · rw [if_neg (fun z => z d2), h1 _ _ F.1 (HI_fr F hH), M_put_no F.1 f5 (by omega) f2 f4 hn.2.1 _ _ upF0 (fun z => z.2 d2)]
        exact h2 _ _ (INV_scr Fs I) (by constructor <;> simp only [aPar, put_1, put_2, set_1, set_2] <;> omega)
      · have G : FM [4, 6, 7, 8, 41, 42, 43] [(5, 3), (40, 2), (40, 3)] [] σ (aTell (aPar σ (rcF σ n nt (gi σ 40 11 0))) 5 6 7 8 100 nt (gi σ 40 11 0) (nI j) i) := FM_p 3 (FM_j (FM_j (FM_j F (by decide)) (by decide)) (by decide)) (by decide)
        have G2 : FM [4, 6, 7, 8, 41, 42, 43] [(5, 3), (40, 2), (40, 3)] [] σ (am_put (mKeep (aTell (aPar σ (rcF σ n nt (gi σ 40 11 0))) 5 6 7 8 100 nt (gi σ 40 11 0) (nI j) i) p (nI j) i) 40 3 (.int (nI (nt + 1)))) := FM_p 11 (FM_p 11 (FM_j (FM_j (FM_j G (by decide)) (by decide)) (by decide)) (by decide)) (by decide)
        have g5 : gi (aTell (aPar σ (rcF σ n nt (gi σ 40 11 0))) 5 6 7 8 100 nt (gi σ 40 11 0) (nI j) i) 40 11 2 = nI p := by simp only [aTell, aPar, gi_put_ne, gi_put_k, gi_put_o, gi_set_ne, ga_put, ga_set_ne, ga_set_eq, gL_put, gL_set_ne, gL_set_eq, gq_put, gq_set_ne, gq_set_eq, fld_set_ne, fld_put_ne, fld_put_k, fld_put_same, Option.map_some, Option.elim_some, Nat.reduceEqDiff, not_false_eq_true]; exact w5
        have g2 : gi (aTell (aPar σ (rcF σ n nt (gi σ 40 11 0))) 5 6 7 8 100 nt (gi σ 40 11 0) (nI j) i) 40 11 1 = nI n := by simp only [aTell, aPar, gi_put_ne, gi_put_k, gi_put_o, gi_set_ne, ga_put, ga_set_ne, ga_set_eq, gL_put, gL_set_ne, gL_set_eq, gq_put, gq_set_ne, gq_set_eq, fld_set_ne, fld_put_ne, fld_put_k, fld_put_same, Option.map_some, Option.elim_some, Nat.reduceEqDiff, not_false_eq_true]; exact w2
        have g4 : gi (aTell (aPar σ (rcF σ n nt (gi σ 40 11 0))) 5 6 7 8 100 nt (gi σ 40 11 0) (nI j) i) 40 11 3 = nI nt := by simp only [aTell, aPar, gi_put_ne, gi_put_k, gi_put_o, gi_set_ne, ga_put, ga_set_ne, ga_set_eq, gL_put, gL_set_ne, gL_set_eq, gq_put, gq_set_ne, gq_set_eq, fld_set_ne, fld_put_ne, fld_put_k, fld_put_same, Option.map_some, Option.elim_some, Nat.reduceEqDiff, not_false_eq_true]; exact w4
        have d3 : isO j = false := by simpa using d
        rw [if_pos d2, h1 _ _ G.1 (HI_fr G hH), M_put G.1 g5 (by omega) g2 hn.1 g4 hn.2.1 _ _ (up G (by simp only [aTell, aPar, gi_put_ne, gi_put_k, gi_put_o, gi_set_ne, ga_put, ga_set_ne, ga_set_eq, gL_put, gL_set_ne, gL_set_eq, gq_put, gq_set_ne, gq_set_eq, fld_set_ne, fld_put_ne, fld_put_k, fld_put_same, Option.map_some, Option.elim_some, Nat.reduceEqDiff, not_false_eq_true]) (by simp only [aTell, aPar, gi_put_ne, gi_put_k, gi_put_o, gi_set_ne, ga_put, ga_set_ne, ga_set_eq, gL_put, gL_set_ne, gL_set_eq, gq_put, gq_set_ne, gq_set_eq, fld_set_ne, fld_put_ne, fld_put_k, fld_put_same, Option.map_some, Option.elim_some, Nat.reduceEqDiff, not_false_eq_true]) (by simp only [aTell, aPar, gi_put_ne, gi_put_k, gi_put_o, gi_set_ne, ga_put, ga_set_ne, ga_set_eq, gL_put, gL_set_ne, gL_set_eq, gq_put, gq_set_ne, gq_set_eq, fld_set_ne, fld_put_ne, fld_put_k, fld_put_same, Option.map_some, Option.elim_some, Nat.reduceEqDiff, not_false_eq_true])), if_pos ⟨⟨c1, c2.elim Or.inl (fun z => Or.inr ⟨z, d3⟩)⟩, d2⟩]
        refine h2 _ _ ⟨⟨G2.1, R30_fr G2 (by decide) hR, HI_fr G2 hH⟩, Ick_fr G2 (by decide) hk, n, nt + 1, p + 1, np, nc, nl, ne, t, ns, q, fp, fw, ?_, Ipc_fr G2 (by decide) P, Icp_fr G2 (by decide) C, Ilv_fr G2 (by decide) Lv, Iem_fr G2 (by decide) E, Itp_fr G2 (by decide) T, Ift_fr G2 (by decide) Fa, Irt_fr G2 (by decide) R, TXS_fr G2 (by decide) (fun B s hB => by simp at hB) X, Isl_fr G2 (by decide) (Nat.le_refl _) P.2.1.1 (fun i _ => by rw [ga_fr G2 (by decide) (by decide)]) S, Ipr_fr G2 (by decide) U⟩ (by constructor <;> simp only [mKeep, aTell, aPar, put_1, put_2, set_1, set_2] <;> omega)
        simp only [Iwd, mKeep, aTell, aPar, gi_put_ne, gi_put_k, gi_put_o, gi_set_ne, ga_put, ga_set_ne, ga_set_eq, gL_put, gL_set_ne, gL_set_eq, gq_put, gq_set_ne, gq_set_eq, fld_set_ne, fld_put_ne, fld_put_k, fld_put_same, Option.map_some, Option.elim_some, Nat.reduceEqDiff, not_false_eq_true, i_40_0 hS, i_40_1 hS, i_40_2 hS, i_40_3 hS, i_5_3 hS, hk.1]
        exact ⟨⟨⟨w1, w2⟩, ⟨(by trivial), (by trivial)⟩, (by trivial)⟩, BW_put B (by omega) hi hj, BE_put B Ee hi hj (fun z => d (hA.mpr z))⟩
  · rw [if_neg c, h1 _ _ hS hH]
    have e : ax k_M_put 0 [some (.ref 40), some (.int w), some (.int i)] [] σ (K2 0) = K2 0 (some (.int 0)) σ := by
      cases c1 : inB w 0 (nI n - 1)
      · exact M_put_no1 hS w2 w i c1
      · have c2 : ¬ (i = -1 ∨ inB i 0 (nI n - 1) = true) := by
          rw [← ltB_in (by omega) i]
          exact fun z => c ⟨by rw [ltB_in (by omega)]; exact c1, z⟩
        exact M_put_no (n := 0) (b := true) hS w5 (by omega) w2 w4 hn.2.1 w i (fun z => absurd (Or.inr z) c2) (by
          intro z
          rcases z.1.2 with z | z
          · exact c2 (Or.inl z)
          · exact c2 (Or.inr z.1))
    rw [e]
    exact h2 _ _ I (Gr_refl σ)
theorem c_picture (I : INV L xs σ) (sh tk : Int32) (g : Int64) (pe : Int32) : CA L xs .int σ (fun K => ax k_A_picture 0 [some (.ref 0), some (.int sh), some (.int tk), some (.long g), none, some (.int pe), none] [] σ K) (fun σ1 K => ax k_M_picture 0 [some (.ref 40), some (.int sh), some (.int tk), some (.long g), none, some (.int pe), none] [] σ1 K) := by
  intro K K2 h1 h2
  dsimp only at h1
  have I' := I
  obtain ⟨⟨hS, hR, hH⟩, hk, n, nt, p, np, nc, nl, ne, t, ns, q, fp, fw, W, P, C, Lv, E, T, Fa, R, X, S, U⟩ := I'
  have P' := P
  obtain ⟨⟨p1, p2⟩, B, p3⟩ := P'
  have hn := B.1
  show ax k_A_picture 0 _ [] σ K
  rw [A_picture hS p1 hn]
  by_cases c : (ltB sh 16 = true ∧ inB tk 0 100000 = true) ∧ ltB pe 65536 = true
  · rw [if_pos c]
    by_cases c2 : np = 40
    · rw [if_pos c2, h1 _ _ hS hH, M_picture hS p2 hn, if_neg (fun z => z.2 c2)]
      exact h2 _ _ I (Gr_refl σ)
    · have F : FM [10, 11, 12, 13, 14, 44, 45, 46, 47, 48] [(9, 6), (40, 7)] [] σ (aPic σ np sh tk g pe) := FM_p 0 (FM_j (FM_j (FM_l (FM_j (FM_j (FM_refl hS) (by decide)) (by decide)) (by decide)) (by decide)) (by decide)) (by decide)
      have F2 : FM [10, 11, 12, 13, 14, 44, 45, 46, 47, 48] [(9, 6), (40, 7)] [] σ (mPic (aPic σ np sh tk g pe) np sh tk g pe) := FM_p 11 (FM_j (FM_j (FM_j (FM_j (FM_j F (by decide)) (by decide)) (by decide)) (by decide)) (by decide)) (by decide)
      have e2 : gi (aPic σ np sh tk g pe) 40 11 7 = nI np := by simp only [aPic, aDis, aPicA, gi_put_ne, gi_put_k, gi_put_o, gi_set_ne, ga_put, ga_set_ne, ga_set_eq, gL_put, gL_set_ne, gL_set_eq, gq_put, gq_set_ne, gq_set_eq, fld_set_ne, fld_put_ne, fld_put_k, fld_put_same, Option.map_some, Option.elim_some, Nat.reduceEqDiff, not_false_eq_true]; exact p2
      rw [if_neg c2, h1 _ _ F.1 (HI_fr F hH), M_picture F.1 e2 hn, if_pos ⟨by rw [← ltB_16, ← ltB_64k]; exact c, c2⟩]
      have e44 : ga (mPic (aPic σ np sh tk g pe) np sh tk g pe) 44 = upd (ga σ 44) np sh := by simp only [mPic, mPicA, aPic, aDis, aPicA, gi_put_ne, gi_put_k, gi_put_o, gi_set_ne, ga_put, ga_set_ne, ga_set_eq, gL_put, gL_set_ne, gL_set_eq, gq_put, gq_set_ne, gq_set_eq, fld_set_ne, fld_put_ne, fld_put_k, fld_put_same, Option.map_some, Option.elim_some, Nat.reduceEqDiff, not_false_eq_true]
      have e46 : ga (mPic (aPic σ np sh tk g pe) np sh tk g pe) 46 = upd (ga σ 46) np (gi σ 40 11 0) := by simp only [mPic, mPicA, aPic, aDis, aPicA, gi_put_ne, gi_put_k, gi_put_o, gi_set_ne, ga_put, ga_set_ne, ga_set_eq, gL_put, gL_set_ne, gL_set_eq, gq_put, gq_set_ne, gq_set_eq, fld_set_ne, fld_put_ne, fld_put_k, fld_put_same, Option.map_some, Option.elim_some, Nat.reduceEqDiff, not_false_eq_true]
      refine h2 _ _ ⟨⟨F2.1, R30_fr F2 (by decide) hR, HI_fr F2 hH⟩, Ick_fr F2 (by decide) hk, n, nt, p, np + 1, nc, nl, ne, t, ns, q, fp, fw, Iwd_fr F2 (by decide) W, ?_, ?_, Ilv_fr F2 (by decide) Lv, Iem_fr F2 (by decide) E, Itp_fr F2 (by decide) T, Ift_fr F2 (by decide) Fa, Irt_fr F2 (by decide) R, TXS_fr F2 (by decide) (fun B s hB => by simp at hB) X, ?_, Ipr_fr F2 (by decide) U⟩ (by constructor <;> simp only [mPic, mPicA, aPic, aDis, aPicA, put_1, put_2, set_1, set_2] <;> omega)
      · simp only [Ipc, mPic, mPicA, aPic, aDis, aPicA, gi_put_ne, gi_put_k, gi_put_o, gi_set_ne, ga_put, ga_set_ne, ga_set_eq, gL_put, gL_set_ne, gL_set_eq, gq_put, gq_set_ne, gq_set_eq, fld_set_ne, fld_put_ne, fld_put_k, fld_put_same, Option.map_some, Option.elim_some, Nat.reduceEqDiff, not_false_eq_true, i_40_7 hS, i_9_6 hS]
        exact ⟨⟨(by trivial), (by trivial)⟩, BP_new B (by omega) sh tk pe g, p3⟩
      · simp only [Icp, mPic, mPicA, aPic, aDis, aPicA, gi_put_ne, gi_put_k, gi_put_o, gi_set_ne, ga_put, ga_set_ne, ga_set_eq, gL_put, gL_set_ne, gL_set_eq, gq_put, gq_set_ne, gq_set_eq, fld_set_ne, fld_put_ne, fld_put_k, fld_put_same, Option.map_some, Option.elim_some, Nat.reduceEqDiff, not_false_eq_true]
        exact ⟨C.1, BC_up C.2 (Nat.le_refl _) (by omega) (fun i hi => upd_ne (by omega))⟩
      · exact Isl_fr F2 (by decide) (by omega) hn (fun i hi => by rw [e44]; exact upd_ne (by omega)) S
  · rw [if_neg c, h1 _ _ hS hH, M_picture hS p2 hn, if_neg (fun z => c (by rw [ltB_16, ltB_64k]; exact z.1))]
    exact h2 _ _ I (Gr_refl σ)
theorem bi_inj {a b : Bool} : bi a = bi b ↔ a = b := by cases a <;> cases b <;> decide
theorem M_caption_no (h : SH σ) {Q : Option Value → am_H → Prop} (p w : Int32) (b : Bool) (hno : ¬ (inB p 0 (gi σ 40 11 7 - 1) = true ∧ inB w 0 (gi σ 40 11 1 - 1) = true)) {n : Nat} (hn : gi σ 40 11 13 = nI n) (hle : n ≤ 200) : ax k_M_caption 0 [some (.ref 40), some (.int p), some (.int w), some (.int (bi b))] [] σ Q = Q (some (.int 0)) σ := by
  rw [M_caption h hn hle, if_neg (fun z => hno z.1.1)]
theorem c_caption (I : INV L xs σ) (x w : Int32) (b : Bool) : CA L xs .int σ (fun K => ax k_A_caption 0 [some (.ref 0), some (.int x), some (.int w), some (.int (bi b))] [] σ K) (fun σ1 K => ax k_M_caption 0 [some (.ref 40), some (.int x), some (.int w), some (.int (bi b))] [] σ1 K) := by
  intro K K2 h1 h2
  dsimp only at h1
  have I' := I
  obtain ⟨⟨hS, hR, hH⟩, hk, n, nt, p, np, nc, nl, ne, t, ns, q, fp, fw, W, P, C, Lv, E, T, Fa, R, X, S, U⟩ := I'
  have W' := W
  have P' := P
  obtain ⟨⟨⟨w1, w2⟩, -, -⟩, B, -⟩ := W'
  obtain ⟨⟨p1, p2⟩, BPp, -⟩ := P'
  obtain ⟨⟨q1, q2⟩, BCc⟩ := C
  have hn := B.1
  have hnp := BPp.1
  show ax k_A_caption 0 _ [] σ K
  by_cases c : ltB x (nI np) = true ∧ ltB w (nI n) = true
  · obtain ⟨i, hi, rfl⟩ := ltB_ix (by omega) c.1
    obtain ⟨j, hj, rfl⟩ := ltB_ix (by omega) c.2
    have c' : inB (nI i) 0 (gi σ 40 11 7 - 1) = true ∧ inB (nI j) 0 (gi σ 40 11 1 - 1) = true := by
      rw [p2, w2, ← ltB_in (by omega), ← ltB_in (by omega)]
      exact c
    have hl := lat_has BCc hn.1 hnp (show i < 40 by omega) (show j < 40 by omega) (gi σ 40 11 0) nc (Nat.le_refl _)
    rw [A_caption hS p1 hnp w1 hn.1 q1 BCc.1 hi hj, hk.1, hl]
    have M0 : ∀ {v : Bool}, (v = b ∨ nc = 200) → v = mHas σ nc (nI i) (nI j) (gi σ 40 11 0) false → ax k_M_caption 0 [some (.ref 40), some (.int (nI i)), some (.int (nI j)), some (.int (bi b))] [] σ (K2 0) = K2 0 (some (.int 0)) σ := by
      intro v hv e
      rw [M_caption hS q2 BCc.1, if_neg]
      intro z
      rcases hv with hv | hv
      · exact z.2 (e.symm.trans hv)
      · exact z.1.2 hv
    by_cases d : hasF (ga σ 49) (ga σ 50) (ga σ 51) (ga σ 52) (nI i) (nI j) (gi σ 40 11 0) false nc = b
    · rw [if_pos (bi_inj.mpr d), h1 _ _ hS hH, M0 (Or.inl d) rfl]
      exact h2 _ _ I (Gr_refl σ)
    · rw [if_neg (fun z => d (bi_inj.mp z))]
      by_cases d2 : nc = 200
      · rw [if_neg (fun z => z d2), h1 _ _ hS hH, M0 (Or.inr d2) rfl]
        exact h2 _ _ I (Gr_refl σ)
      · have F : FM [18, 19, 20, 49, 50, 51, 52] [(17, 3), (40, 13)] [] σ (aTell σ 17 18 19 20 200 nc (gi σ 40 11 0) (nI (i * 40 + j)) (bi b)) := FM_p 3 (FM_j (FM_j (FM_j (FM_refl hS) (by decide)) (by decide)) (by decide)) (by decide)
        have F2 : FM [18, 19, 20, 49, 50, 51, 52] [(17, 3), (40, 13)] [] σ (mCap (aTell σ 17 18 19 20 200 nc (gi σ 40 11 0) (nI (i * 40 + j)) (bi b)) nc (nI i) (nI j) b) := FM_p 11 (FM_j (FM_j (FM_j (FM_j F (by decide)) (by decide)) (by decide)) (by decide)) (by decide)
        have e13 : gi (aTell σ 17 18 19 20 200 nc (gi σ 40 11 0) (nI (i * 40 + j)) (bi b)) 40 11 13 = nI nc := by simp only [aTell, gi_put_ne, gi_put_k, gi_put_o, gi_set_ne, ga_put, ga_set_ne, ga_set_eq, gL_put, gL_set_ne, gL_set_eq, gq_put, gq_set_ne, gq_set_eq, fld_set_ne, fld_put_ne, fld_put_k, fld_put_same, Option.map_some, Option.elim_some, Nat.reduceEqDiff, not_false_eq_true]; exact q2
        have e7 : gi (aTell σ 17 18 19 20 200 nc (gi σ 40 11 0) (nI (i * 40 + j)) (bi b)) 40 11 7 = gi σ 40 11 7 := by simp only [aTell, gi_put_ne, gi_put_k, gi_put_o, gi_set_ne, ga_put, ga_set_ne, ga_set_eq, gL_put, gL_set_ne, gL_set_eq, gq_put, gq_set_ne, gq_set_eq, fld_set_ne, fld_put_ne, fld_put_k, fld_put_same, Option.map_some, Option.elim_some, Nat.reduceEqDiff, not_false_eq_true]
        have e1 : gi (aTell σ 17 18 19 20 200 nc (gi σ 40 11 0) (nI (i * 40 + j)) (bi b)) 40 11 1 = gi σ 40 11 1 := by simp only [aTell, gi_put_ne, gi_put_k, gi_put_o, gi_set_ne, ga_put, ga_set_ne, ga_set_eq, gL_put, gL_set_ne, gL_set_eq, gq_put, gq_set_ne, gq_set_eq, fld_set_ne, fld_put_ne, fld_put_k, fld_put_same, Option.map_some, Option.elim_some, Nat.reduceEqDiff, not_false_eq_true]
        have em : mHas (aTell σ 17 18 19 20 200 nc (gi σ 40 11 0) (nI (i * 40 + j)) (bi b)) nc (nI i) (nI j) (gi (aTell σ 17 18 19 20 200 nc (gi σ 40 11 0) (nI (i * 40 + j)) (bi b)) 40 11 0) false = mHas σ nc (nI i) (nI j) (gi σ 40 11 0) false := by simp only [mHas, aTell, gi_put_ne, gi_put_k, gi_put_o, gi_set_ne, ga_put, ga_set_ne, ga_set_eq, gL_put, gL_set_ne, gL_set_eq, gq_put, gq_set_ne, gq_set_eq, fld_set_ne, fld_put_ne, fld_put_k, fld_put_same, Option.map_some, Option.elim_some, Nat.reduceEqDiff, not_false_eq_true]
        rw [if_pos d2, h1 _ _ F.1 (HI_fr F hH), M_caption F.1 e13 BCc.1, e7, e1, em, if_pos ⟨⟨c', d2⟩, d⟩]
        refine h2 _ _ ⟨⟨F2.1, R30_fr F2 (by decide) hR, HI_fr F2 hH⟩, Ick_fr F2 (by decide) hk, n, nt, p, np, nc + 1, nl, ne, t, ns, q, (fun k => if k = nc then i else fp k), (fun k => if k = nc then j else fw k), Iwd_fr F2 (by decide) W, Ipc_fr F2 (by decide) P, ?_, Ilv_fr F2 (by decide) Lv, Iem_fr F2 (by decide) E, Itp_fr F2 (by decide) T, Ift_fr F2 (by decide) Fa, Irt_fr F2 (by decide) R, TXS_fr F2 (by decide) (fun B s hB => by simp at hB) X, Isl_fr F2 (by decide) (Nat.le_refl _) P.2.1.1 (fun i _ => by rw [ga_fr F2 (by decide) (by decide)]) S, Ipr_fr F2 (by decide) U⟩ (by constructor <;> simp only [mCap, aTell, put_1, put_2, set_1, set_2] <;> omega)
        · simp only [Icp, mCap, aTell, gi_put_ne, gi_put_k, gi_put_o, gi_set_ne, ga_put, ga_set_ne, ga_set_eq, gL_put, gL_set_ne, gL_set_eq, gq_put, gq_set_ne, gq_set_eq, fld_set_ne, fld_put_ne, fld_put_k, fld_put_same, Option.map_some, Option.elim_some, Nat.reduceEqDiff, not_false_eq_true, i_40_13 hS, i_17_3 hS]
          exact ⟨⟨(by trivial), (by trivial)⟩, BC_new BCc (by have := BCc.1; omega) hi hj b (BPp.2.1 i hi).2.1⟩
  · rw [A_caption_no hS p1 w1 x w b c, h1 _ _ hS hH, M_caption_no hS x w b (by rw [p2, w2, ← ltB_in (by omega), ← ltB_in (by omega)]; exact c) q2 BCc.1]
    exact h2 _ _ I (Gr_refl σ)
end K2
