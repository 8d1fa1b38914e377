/-! THE REFERENCE, 18: sales -/
theorem iniR_eq (f : Nat → Int32) (pic : Int32) : ∀ n j, iniR f pic n j = if j < n then (if nI j = pic then 1 else 0) else f j := by
  intro n
  induction n with
  | zero => intro j; rfl
  | succ n ih =>
    intro j
    simp only [iniR, upd]
    by_cases h1 : j = n
    · subst h1
      simp
    · rw [if_neg h1, ih]
      by_cases h2 : j < n
      · rw [if_pos h2, if_pos (show j < n + 1 by omega)]
      · rw [if_neg h2, if_neg (show ¬ j < n + 1 by omega)]
theorem passF_out (lk : Nat → Nat → Bool) (np : Nat) : ∀ c k g mo j, k + c ≤ j → (passF lk np k c g mo).1 j = g j := by
  intro c
  induction c with
  | zero => intro k g mo j _; rfl
  | succ c ih =>
    intro k g mo j hj
    simp only [passF]
    split
    · rw [ih _ _ _ _ (by omega)]
      simp only [upd, if_neg (show ¬ j = k by omega)]
    · exact ih _ _ _ _ (by omega)
theorem loopF_out (lk : Nat → Nat → Bool) (np : Nat) : ∀ n g mo g' j, loopF lk np n g mo = some g' → np ≤ j → g' j = g j := by
  intro n
  induction n with
  | zero => intro g mo g' j hh; cases hh
  | succ n ih =>
    intro g mo g' j hh hj
    simp only [loopF] at hh
    split at hh
    · cases hh; rfl
    · rw [ih _ _ _ _ hh hj, passF_out _ _ _ _ _ _ _ (by omega)]
theorem iniR_again {lk : Nat → Nat → Bool} {np n : Nat} {f g : Nat → Int32} {pic mo : Int32} (hg : loopF lk np n (iniR f pic np) mo = some g) : iniR g pic np = iniR f pic np := by
  funext j
  rw [iniR_eq, iniR_eq]
  by_cases h : j < np
  · simp only [if_pos h]
  · simp only [if_neg h]
    rw [loopF_out _ _ _ _ _ _ j hg (by omega), iniR_eq, if_neg h]
def mSal7 (τ : am_H) (s : Nat) (pic land use size till pr : Int32) : am_H := am_set (am_set (am_set (am_set (am_set (am_set (am_set τ 69 (am_ia 0 60 (upd (ga τ 69) s pic))) 70 (am_ia 0 60 (upd (ga τ 70) s land))) 71 (am_ia 0 60 (upd (ga τ 71) s use))) 72 (am_ia 0 60 (upd (ga τ 72) s size))) 73 (am_ia 0 60 (upd (ga τ 73) s (gi τ 40 11 0)))) 74 (am_ia 0 60 (upd (ga τ 74) s till))) 75 (am_ia 0 60 (upd (ga τ 75) s pr))
def mSal5 (τ : am_H) (s : Nat) (fs fi ow : Int32) : am_H := am_put (am_set (am_set (am_set (am_set (am_set τ 78 (am_ia 0 60 (upd (ga τ 78) s fs))) 77 (am_ia 0 60 (upd (ga τ 77) s fi))) 76 (am_ia 0 60 (upd (ga τ 76) s ow))) 79 (am_ia 1 60 (upd (ga τ 79) s 0))) 80 (am_ia 0 60 (upd (ga τ 80) s (-1)))) 40 45 (.int (nI (s + 1)))
def mPrc (τ : am_H) (u : Nat) (size till : Int32) : Int32 := ga τ 81 u * size * (if till < 0 then 1 else 2)
def mAll (τ : am_H) (pr : Int32) : Int32 := (pr.toInt64 * (gi τ 40 11 59).toInt64 / 100).toInt32
section S1
variable {σ τ : am_H} {Q : Option Value → am_H → Prop} {p nw np ns nl ne s : Nat} {isO : Nat → Bool} {pic land use size till pr : Int32}
theorem SH_Sal7 (h : SH τ) : SH (mSal7 τ s pic land use size till pr) := by
  unfold mSal7
  refine SH_set_j ?_ (by decide) (by decide) (by decide) (by decide) (by decide)
  refine SH_set_j ?_ (by decide) (by decide) (by decide) (by decide) (by decide)
  refine SH_set_j ?_ (by decide) (by decide) (by decide) (by decide) (by decide)
  refine SH_set_j ?_ (by decide) (by decide) (by decide) (by decide) (by decide)
  refine SH_set_j ?_ (by decide) (by decide) (by decide) (by decide) (by decide)
  refine SH_set_j ?_ (by decide) (by decide) (by decide) (by decide) (by decide)
  exact SH_set_j h (by decide) (by decide) (by decide) (by decide) (by decide)
theorem Sal7_gi (b ci i : Nat) (h : b < 69) : gi (mSal7 τ s pic land use size till pr) b ci i = gi τ b ci i := by
  unfold mSal7
  rw [gi_set_ne (by omega), gi_set_ne (by omega), gi_set_ne (by omega), gi_set_ne (by omega), gi_set_ne (by omega), gi_set_ne (by omega), gi_set_ne (by omega)]
theorem Sal7_ga (b : Nat) (h : b < 69 ∨ 75 < b) : ga (mSal7 τ s pic land use size till pr) b = ga τ b := by
  unfold mSal7
  rw [ga_set_ne (by omega), ga_set_ne (by omega), ga_set_ne (by omega), ga_set_ne (by omega), ga_set_ne (by omega), ga_set_ne (by omega), ga_set_ne (by omega)]
theorem Sal7_75 : ga (mSal7 τ s pic land use size till pr) 75 = upd (ga τ 75) s pr := by
  unfold mSal7
  exact ga_set_eq
/-- the sale is kept: pc 78 on, behind whyNot -/
theorem M_sale_keep (h : SH τ) (hpc : gi τ 40 11 7 = nI np) (hnp : np ≤ 40) (hs : gi τ 40 11 45 = nI ns) (hns : ns < 60) {i u n f : Nat} (hi : i < np) (hu : u < 5) {g : Nat → Int32} (hg : mSpr τ np n (nI i) = some g) (hgg : ga τ 59 = g) (hf : f < 40) (hff : firR g (ga τ 45) np = nI f) (land size word till : Int32) :
    ax k_M_sale 78 [some (.ref 40), some (.int (nI i)), some (.int land), some (.int (nI u)), some (.int size), some (.int word), some (.int till), some (.int 0), none, none] [] τ Q = Q (some (.int (nI ns))) (mSal5 (mSal7 τ ns (nI i) land (nI u) size till (mPrc τ u size till)) ns (ga τ 44 f) (if ga τ 44 f = ga τ 44 i then 0 else mAll τ (mPrc τ u size till) / 10) (mAll τ (mPrc τ u size till) - (if ga τ 44 f = ga τ 44 i then 0 else mAll τ (mPrc τ u size till) / 10))) := by
  have hix := ix_nI (show ns < 60 by omega) (by omega)
  have hcl : (nI ns).toNatClampNeg = ns := nI_clamp (by omega)
  have hixi := ix_nI (show i < 40 by omega) (by omega)
  have hcli : (nI i).toNatClampNeg = i := nI_clamp (by omega)
  have hixf := ix_nI (show f < 40 by omega) (by omega)
  have hclf : (nI f).toNatClampNeg = f := nI_clamp (by omega)
  have hixu := ix_nI (show u < 5 by omega) (by omega)
  have hclu : (nI u).toNatClampNeg = u := nI_clamp (by omega)
  have n100 : ¬ (100 : Int64) = 0 := by decide
  have n10 : ¬ (10 : Int32) = 0 := by decide
  have h7 := SH_Sal7 (s := ns) (pic := nI i) (land := land) (use := nI u) (size := size) (till := till) (pr := mPrc τ u size till) h
  have g7 : gi (mSal7 τ ns (nI i) land (nI u) size till (mPrc τ u size till)) 40 11 7 = nI np := by rw [Sal7_gi _ _ _ (by decide)]; exact hpc
  have gg := fun k => Sal7_gi (τ := τ) (s := ns) (pic := nI i) (land := land) (use := nI u) (size := size) (till := till) (pr := mPrc τ u size till) 40 11 k (by decide)
  have aa := fun b hb => Sal7_ga (τ := τ) (s := ns) (pic := nI i) (land := land) (use := nI u) (size := size) (till := till) (pr := mPrc τ u size till) b hb
  have hg7 : mSpr (mSal7 τ ns (nI i) land (nI u) size till (mPrc τ u size till)) np n (nI i) = some g := by
    rw [← hg]
    simp only [mSpr]
    have : mLk (mSal7 τ ns (nI i) land (nI u) size till (mPrc τ u size till)) = mLk τ := by
      funext a b
      simp only [mLk, gg, aa 48 (by decide)]
    rw [this, aa 59 (by decide)]
  have hfo := fun (Q : Option Value → am_H → Prop) => M_firstOf (Q := Q) h7 g7 hnp (nI i) hg7
  have es : mSet (mSal7 τ ns (nI i) land (nI u) size till (mPrc τ u size till)) g = mSal7 τ ns (nI i) land (nI u) size till (mPrc τ u size till) := by
    have e := mSet_self h7
    rw [aa 59 (by decide), hgg] at e
    exact e
  rw [es, aa 45 (by decide), hff] at hfo
  have go : ax k_M_sale 78 [some (.ref 40), some (.int (nI i)), some (.int land), some (.int (nI u)), some (.int size), some (.int word), some (.int till), some (.int 0), none, none] [] τ Q = ax k_M_sale 164 [some (.ref 40), some (.int (nI i)), some (.int land), some (.int (nI u)), some (.int size), some (.int word), some (.int till), some (.int 0), some (.int (nI ns)), none] [] (mSal7 τ ns (nI i) land (nI u) size till (mPrc τ u size till)) Q := by
    simp only [s_M_sale_0, s_M_sale_1, s_M_sale_2, s_M_sale_3, s_M_sale_4, s_M_sale_6, s_M_sale_9, s_M_sale_12, s_M_sale_13, s_M_sale_15, s_M_sale_18, s_M_sale_21, s_M_sale_23, s_M_sale_24, s_M_sale_27, s_M_sale_29, s_M_sale_30, s_M_sale_33, s_M_sale_35, s_M_sale_38, s_M_sale_41, s_M_sale_42, s_M_sale_45, s_M_sale_47, s_M_sale_50, s_M_sale_51, s_M_sale_54, s_M_sale_55, s_M_sale_57, s_M_sale_59, s_M_sale_62, s_M_sale_63, s_M_sale_64, s_M_sale_65, s_M_sale_66, s_M_sale_68, s_M_sale_70, s_M_sale_73, s_M_sale_76, s_M_sale_77, s_M_sale_78, s_M_sale_79, s_M_sale_82, s_M_sale_84, s_M_sale_85, s_M_sale_88, s_M_sale_90, s_M_sale_91, s_M_sale_92, s_M_sale_93, s_M_sale_96, s_M_sale_98, s_M_sale_99, s_M_sale_100, s_M_sale_101, s_M_sale_104, s_M_sale_106, s_M_sale_107, s_M_sale_108, s_M_sale_109, s_M_sale_112, s_M_sale_114, s_M_sale_116, s_M_sale_117, s_M_sale_118, s_M_sale_121, s_M_sale_123, s_M_sale_124, s_M_sale_127, s_M_sale_128, s_M_sale_129, s_M_sale_132, s_M_sale_134, s_M_sale_136, s_M_sale_137, s_M_sale_138, s_M_sale_141, s_M_sale_143, s_M_sale_144, s_M_sale_147, s_M_sale_148, s_M_sale_149, s_M_sale_151, s_M_sale_152, s_M_sale_154, s_M_sale_157, s_M_sale_158, s_M_sale_161, s_M_sale_162, s_M_sale_163, s_M_sale_165, s_M_sale_168, s_M_sale_170, s_M_sale_171, s_M_sale_172, s_M_sale_173, s_M_sale_176, s_M_sale_177, s_M_sale_178, s_M_sale_181, s_M_sale_182, s_M_sale_183, s_M_sale_185, s_M_sale_186, s_M_sale_189, s_M_sale_191, s_M_sale_192, s_M_sale_195, s_M_sale_196, s_M_sale_197, s_M_sale_200, s_M_sale_201, s_M_sale_202, s_M_sale_203, s_M_sale_206, s_M_sale_208, s_M_sale_209, s_M_sale_212, s_M_sale_214, s_M_sale_215, s_M_sale_216, s_M_sale_219, s_M_sale_220, s_M_sale_221, s_M_sale_224, s_M_sale_225, s_M_sale_228, s_M_sale_230, s_M_sale_232, s_M_sale_233, s_M_sale_234, s_M_sale_235, s_M_sale_238, s_M_sale_240, s_M_sale_242, s_M_sale_243, s_M_sale_246, s_M_sale_248, s_M_sale_249, s_M_sale_250, s_M_sale_251, s_M_sale_252, s_M_sale_255, s_M_sale_257, s_M_sale_258, s_M_sale_259, s_M_sale_260, s_M_sale_263, s_M_sale_265, s_M_sale_266, s_M_sale_267, s_M_sale_268, s_M_sale_269, s_M_sale_272, s_M_sale_273, s_M_sale_274, s_M_sale_277, s_M_sale_279, ↓reduceIte, Nat.reduceEqDiff, Nat.reduceLT, am_top, ax_f_some, ax_k_some, ax_k_none, s8_0, s8_1, s8_2, s8_3, s8_4, c2p_n, c2p_i, c2p_r, c2p_z, okvp_i, okvp_l, okvp_r, okvp_n, okvp_z, okvp_z0, okvp_z1, bi_narp, am_nar0p, am_nar1p, bi_0, bi_1, true_and, and_true, fld_set_ne, j_set_ne, q_set_ne, lv_set_ne, nv_set_ne, is_set_ne, j_set_eq, lv_set_eq, q_set_eq, nv_set_i, nv_set_l, nv_set_q, fld_put_ne, fld_put_k, fld_put_same, Option.map_some, j_put, q_put, lv_put, nv_put, is_put, put_1, set_1, i_40_0 h, i_40_1 h, i_40_2 h, i_40_3 h, r_40_4 h, r_40_5 h, r_40_6 h, i_40_7 h, r_40_8 h, r_40_9 h, r_40_10 h, r_40_11 h, r_40_12 h, i_40_13 h, r_40_14 h, r_40_15 h, r_40_16 h, r_40_17 h, i_40_18 h, i_40_19 h, r_40_20 h, r_40_21 h, r_40_22 h, i_40_23 h, r_40_24 h, r_40_25 h, r_40_26 h, r_40_27 h, r_40_28 h, i_40_29 h, r_40_30 h, r_40_31 h, r_40_32 h, r_40_33 h, r_40_34 h, r_40_35 h, r_40_36 h, r_40_37 h, i_40_38 h, i_40_39 h, i_40_40 h, i_40_41 h, i_40_42 h, i_40_43 h, i_40_44 h, i_40_45 h, r_40_46 h, r_40_47 h, r_40_48 h, r_40_49 h, r_40_50 h, r_40_51 h, r_40_52 h, r_40_53 h, r_40_54 h, r_40_55 h, r_40_56 h, r_40_57 h, r_40_58 h, i_40_59 h, i_40_60 h, r_40_61 h, o_40 h, j_69 h, n_69 h, j_70 h, n_70 h, j_71 h, n_71 h, j_72 h, n_72 h, j_73 h, n_73 h, j_74 h, n_74 h, j_75 h, n_75 h, j_81 h, n_81 h, hs, hix, hcl, hixu, hclu, not_false_eq_true, mSal7, mPrc]
    by_cases c : till < 0
    · simp only [if_pos c]
    · simp only [if_neg c]
  rw [go]
  simp only [s_M_sale_0, s_M_sale_1, s_M_sale_2, s_M_sale_3, s_M_sale_4, s_M_sale_6, s_M_sale_9, s_M_sale_12, s_M_sale_13, s_M_sale_15, s_M_sale_18, s_M_sale_21, s_M_sale_23, s_M_sale_24, s_M_sale_27, s_M_sale_29, s_M_sale_30, s_M_sale_33, s_M_sale_35, s_M_sale_38, s_M_sale_41, s_M_sale_42, s_M_sale_45, s_M_sale_47, s_M_sale_50, s_M_sale_51, s_M_sale_54, s_M_sale_55, s_M_sale_57, s_M_sale_59, s_M_sale_62, s_M_sale_63, s_M_sale_64, s_M_sale_65, s_M_sale_66, s_M_sale_68, s_M_sale_70, s_M_sale_73, s_M_sale_76, s_M_sale_77, s_M_sale_78, s_M_sale_79, s_M_sale_82, s_M_sale_84, s_M_sale_85, s_M_sale_88, s_M_sale_90, s_M_sale_91, s_M_sale_92, s_M_sale_93, s_M_sale_96, s_M_sale_98, s_M_sale_99, s_M_sale_100, s_M_sale_101, s_M_sale_104, s_M_sale_106, s_M_sale_107, s_M_sale_108, s_M_sale_109, s_M_sale_112, s_M_sale_114, s_M_sale_116, s_M_sale_117, s_M_sale_118, s_M_sale_121, s_M_sale_123, s_M_sale_124, s_M_sale_127, s_M_sale_128, s_M_sale_129, s_M_sale_132, s_M_sale_134, s_M_sale_136, s_M_sale_137, s_M_sale_138, s_M_sale_141, s_M_sale_143, s_M_sale_144, s_M_sale_147, s_M_sale_148, s_M_sale_149, s_M_sale_151, s_M_sale_152, s_M_sale_154, s_M_sale_157, s_M_sale_158, s_M_sale_161, s_M_sale_162, s_M_sale_163, s_M_sale_164, s_M_sale_165, s_M_sale_168, s_M_sale_170, s_M_sale_171, s_M_sale_172, s_M_sale_173, s_M_sale_176, s_M_sale_177, s_M_sale_178, s_M_sale_181, s_M_sale_182, s_M_sale_183, s_M_sale_185, s_M_sale_186, s_M_sale_189, s_M_sale_191, s_M_sale_192, s_M_sale_195, s_M_sale_196, s_M_sale_197, s_M_sale_200, s_M_sale_201, s_M_sale_202, s_M_sale_203, s_M_sale_206, s_M_sale_208, s_M_sale_209, s_M_sale_212, s_M_sale_214, s_M_sale_215, s_M_sale_216, s_M_sale_219, s_M_sale_220, s_M_sale_221, s_M_sale_224, s_M_sale_225, s_M_sale_228, s_M_sale_230, s_M_sale_232, s_M_sale_233, s_M_sale_234, s_M_sale_235, s_M_sale_238, s_M_sale_240, s_M_sale_242, s_M_sale_243, s_M_sale_246, s_M_sale_248, s_M_sale_249, s_M_sale_250, s_M_sale_251, s_M_sale_252, s_M_sale_255, s_M_sale_257, s_M_sale_258, s_M_sale_259, s_M_sale_260, s_M_sale_263, s_M_sale_265, s_M_sale_266, s_M_sale_267, s_M_sale_268, s_M_sale_269, s_M_sale_272, s_M_sale_273, s_M_sale_274, s_M_sale_277, s_M_sale_279, ↓reduceIte, Nat.reduceEqDiff, Nat.reduceLT, am_top, ax_f_some, ax_k_some, ax_k_none, s8_0, s8_1, s8_2, s8_3, s8_4, c2p_n, c2p_i, c2p_r, c2p_z, okvp_i, okvp_l, okvp_r, okvp_n, okvp_z, okvp_z0, okvp_z1, bi_narp, am_nar0p, am_nar1p, bi_0, bi_1, true_and, and_true, fld_set_ne, j_set_ne, q_set_ne, lv_set_ne, nv_set_ne, is_set_ne, j_set_eq, lv_set_eq, q_set_eq, nv_set_i, nv_set_l, nv_set_q, fld_put_ne, fld_put_k, fld_put_same, Option.map_some, j_put, q_put, lv_put, nv_put, is_put, put_1, set_1, i_40_0 h7, i_40_1 h7, i_40_2 h7, i_40_3 h7, r_40_4 h7, r_40_5 h7, r_40_6 h7, i_40_7 h7, r_40_8 h7, r_40_9 h7, r_40_10 h7, r_40_11 h7, r_40_12 h7, i_40_13 h7, r_40_14 h7, r_40_15 h7, r_40_16 h7, r_40_17 h7, i_40_18 h7, i_40_19 h7, r_40_20 h7, r_40_21 h7, r_40_22 h7, i_40_23 h7, r_40_24 h7, r_40_25 h7, r_40_26 h7, r_40_27 h7, r_40_28 h7, i_40_29 h7, r_40_30 h7, r_40_31 h7, r_40_32 h7, r_40_33 h7, r_40_34 h7, r_40_35 h7, r_40_36 h7, r_40_37 h7, i_40_38 h7, i_40_39 h7, i_40_40 h7, i_40_41 h7, i_40_42 h7, i_40_43 h7, i_40_44 h7, i_40_45 h7, r_40_46 h7, r_40_47 h7, r_40_48 h7, r_40_49 h7, r_40_50 h7, r_40_51 h7, r_40_52 h7, r_40_53 h7, r_40_54 h7, r_40_55 h7, r_40_56 h7, r_40_57 h7, r_40_58 h7, i_40_59 h7, i_40_60 h7, r_40_61 h7, o_40 h7, j_75 h7, n_75 h7, j_44 h7, n_44 h7, j_78 h7, n_78 h7, j_77 h7, n_77 h7, j_76 h7, n_76 h7, j_79 h7, n_79 h7, j_80 h7, n_80 h7, hfo, hix, hcl, hixi, hcli, hixf, hclf, n100, n10, gg, hs, Sal7_75, pk_us, aa 44 (by decide), aa 45 (by decide), not_false_eq_true, true_or, or_true, nI_1]
  by_cases c : ga τ 44 f = ga τ 44 i
  · simp only [if_pos c, pk_us, mSal5, mAll, aa 78 (by decide), aa 77 (by decide), aa 76 (by decide), aa 79 (by decide), aa 80 (by decide)]
  · simp only [if_neg c, pk_us, mSal5, mAll, aa 78 (by decide), aa 77 (by decide), aa 76 (by decide), aa 79 (by decide), aa 80 (by decide)]
end S1
