/-! THE REFERENCE, 15: a text is read and kept -/
theorem nI_surj (x : Int32) : ∃ n, nI n = x := ⟨x.toBitVec.toNat, by
  apply Int32.toBitVec_inj.mp
  show BitVec.ofNat 32 _ = _
  simp⟩
theorem upd_self (f : Nat → Int32) (n : Nat) : upd f n (f n) = f := by
  funext j
  unfold upd
  by_cases h : j = n <;> simp [h]
theorem set_selfg {σ : am_H} {a : Nat} {c : am_C} (h : am_get σ a = some c) : am_set σ a c = σ := by
  unfold am_set
  refine Prod.ext rfl (Prod.ext rfl ?_)
  funext x
  by_cases hx : x = a
  · subst hx
    simp only [↓reduceIte]
    exact h.symm
  · simp only [hx, ↓reduceIte]
theorem set_selfj {σ : am_H} {a kd n : Nat} {f : Nat → Int32} (h : am_j σ a = some (kd, n, f)) : am_set σ a (am_ia kd n f) = σ := set_selfg (j_get h)
section T3
variable {σ : am_H} {Q : Option Value → am_H → Prop} {t nw : Nat}
theorem endF_a (s : MS) (hs : s.a ≤ t) : s.a ≤ (endF (mSee σ t) t s).2.a ∧ (endF (mSee σ t) t s).2.a ≤ t := by
  unfold endF
  split
  · exact ⟨nx_ge s hs, nx_le s hs⟩
  · exact ⟨Nat.le_refl _, hs⟩
theorem dayF_a (w : Int32) (s : MS) (hs : s.a ≤ t) : s.a ≤ (dayF (mSee σ t) t w s).2.a ∧ (dayF (mSee σ t) t w s).2.a ≤ t := by
  have hs2 : (s.s_dt s.nm).a ≤ t := hs
  have e1 := nx_le (σ := σ) _ hs2
  have e2 := nx_ge (σ := σ) _ hs2
  unfold dayF
  split
  · split
    · split
      · have e3 := endF_a (σ := σ) _ e1
        exact ⟨Nat.le_trans e2 e3.1, e3.2⟩
      · exact ⟨Nat.le_refl _, hs⟩
    · exact ⟨Nat.le_refl _, hs⟩
  · exact endF_a s hs
theorem clF_a (s : MS) (hs : s.a ≤ t) : (clF (mSee σ t) t nw s).2.a ≤ t ∧ ((clF (mSee σ t) t nw s).1 = 0 → s.a < (clF (mSee σ t) t nw s).2.a) := by
  have hs2 : (s.s_cl (s.cl ||| ((1 : Int32) <<< (s.tk &&& 31)))).a ≤ t := hs
  have e1 := nx_le (σ := σ) _ hs2
  have e2 := nx_gt (σ := σ) _ hs2
  have e3 := numR_a (σ := σ) (nw := nw) s.tk (t + 1) _ e1
  have e4 := dayF_a (σ := σ) s.tk _ e3.2
  have n1 : ¬ (1 : Int32) = 0 := by decide
  have n2 : ¬ (2 : Int32) = 0 := by decide
  unfold clF
  split
  · split
    · exact ⟨hs, fun z => absurd z n2⟩
    · split
      · rename_i c
        have e2 := e2 (by rw [c]; decide)
        split
        · exact ⟨e4.2, fun _ => Nat.lt_of_lt_of_le e2 (Nat.le_trans e3.1 e4.1)⟩
        · rename_i c2
          exact ⟨e3.2, fun z => absurd z c2⟩
      · exact ⟨e1, fun z => absurd z n1⟩
  · exact ⟨hs, fun z => absurd z n1⟩
theorem M_read_loop (h : SH σ) (ht : gi σ 40 11 29 = nI t) (hle : t ≤ 120) (hw : gi σ 40 11 1 = nI nw) : ∀ f s, s.a ≤ t → t + 1 ≤ f + s.a → ∀ z : Option Value, ax k_M_read 41 [some (.ref 40), z] [] (mSt σ s) Q = Q (some (.int (rdF (mSee σ t) t nw f s).1)) (mSt σ (rdF (mSee σ t) t nw f s).2) := by
  intro f
  induction f with
  | zero => intro s h1 h2; omega
  | succ f ih =>
    intro s h1 h2 z
    have hs := SH_St h s
    have e := clF_a (σ := σ) (nw := nw) s h1
    rw [s_M_read_41]
    simp only [s_M_read_0, s_M_read_1, s_M_read_4, s_M_read_6, s_M_read_7, s_M_read_8, s_M_read_9, s_M_read_12, s_M_read_14, s_M_read_15, s_M_read_16, s_M_read_17, s_M_read_20, s_M_read_22, s_M_read_23, s_M_read_24, s_M_read_25, s_M_read_28, s_M_read_30, s_M_read_31, s_M_read_32, s_M_read_33, s_M_read_34, s_M_read_37, s_M_read_38, s_M_read_42, s_M_read_45, s_M_read_48, s_M_read_49, s_M_read_52, s_M_read_53, s_M_read_54, s_M_read_57, s_M_read_58, s_M_read_59, s_M_read_62, s_M_read_63, ↓reduceIte, Nat.reduceEqDiff, Nat.reduceLT, am_top, ax_f_some, ax_k_some, ax_k_none, s8_0, s8_1, s8_2, s8_3, s8_4, c2p_n, c2p_i, c2p_r, c2p_z, okvp_i, okvp_l, okvp_r, okvp_n, okvp_z, okvp_z0, okvp_z1, bi_narp, am_nar0p, am_nar1p, bi_0, bi_1, true_and, and_true, i_40_0 hs, i_40_1 hs, i_40_2 hs, i_40_3 hs, r_40_4 hs, r_40_5 hs, r_40_6 hs, i_40_7 hs, r_40_8 hs, r_40_9 hs, r_40_10 hs, r_40_11 hs, r_40_12 hs, i_40_13 hs, r_40_14 hs, r_40_15 hs, r_40_16 hs, r_40_17 hs, i_40_18 hs, i_40_19 hs, r_40_20 hs, r_40_21 hs, r_40_22 hs, i_40_23 hs, r_40_24 hs, r_40_25 hs, r_40_26 hs, r_40_27 hs, r_40_28 hs, i_40_29 hs, r_40_30 hs, r_40_31 hs, r_40_32 hs, r_40_33 hs, r_40_34 hs, r_40_35 hs, r_40_36 hs, r_40_37 hs, i_40_38 hs, i_40_39 hs, i_40_40 hs, i_40_41 hs, i_40_42 hs, i_40_43 hs, i_40_44 hs, i_40_45 hs, r_40_46 hs, r_40_47 hs, r_40_48 hs, r_40_49 hs, r_40_50 hs, r_40_51 hs, r_40_52 hs, r_40_53 hs, r_40_54 hs, r_40_55 hs, r_40_56 hs, r_40_57 hs, r_40_58 hs, i_40_59 hs, i_40_60 hs, r_40_61 hs, o_40 hs, st_tk h, M_clause h ht hle hw _ h1, rdF]
    by_cases c1 : s.tk = 0
    · simp only [if_pos c1]
    · by_cases c2 : (clF (mSee σ t) t nw s).1 = 0
      · have ih := ih _ e.1 (by have := e.2 c2; omega) (some (.int (clF (mSee σ t) t nw s).1))
        simp only [if_neg c1, if_pos c2]
        exact ih
      · simp only [if_neg c1, if_neg c2]
def mRd0 (σ : am_H) : MS := (0, 0, 0, gi σ 40 11 43, 0, 0, 0, ga σ 65 120, ga σ 66 120, ga σ 67 120, 0)
def mRd (σ : am_H) (t nw : Nat) : Int32 × MS := rdF (mSee σ t) t nw (t + 1) (nx (mSee σ t) t (mRd0 σ))
theorem st_read (h : SH σ) {p : Nat} (hp : nI p = gi σ 40 11 41) : mSt σ (0, p, gi σ 40 11 42, gi σ 40 11 43, 0, 0, 0, ga σ 65 120, ga σ 66 120, ga σ 67 120, 0) = am_put (am_set (am_set (am_set (am_set σ 62 (am_ia 0 121 (upd (ga σ 62) 120 0))) 63 (am_ia 0 121 (upd (ga σ 63) 120 0))) 64 (am_ia 0 121 (upd (ga σ 64) 120 0))) 68 (am_la 121 (vp_updL (gL σ 68) 120 0))) 40 40 (.int 0) := by
  unfold mSt mScr mTok
  dsimp only [MS.a, MS.p, MS.tk, MS.nm, MS.cl, MS.la, MS.us, MS.df, MS.dt, MS.mo, MS.be]
  rw [upd_self, upd_self, upd_self, hp, nI_0]
  rw [set_selfj (a := 65) (by rw [j_set_ne (by decide), j_set_ne (by decide), j_set_ne (by decide)]; exact j_65 h)]
  rw [set_selfj (a := 66) (by rw [j_set_ne (by decide), j_set_ne (by decide), j_set_ne (by decide)]; exact j_66 h)]
  rw [set_selfj (a := 67) (by rw [j_set_ne (by decide), j_set_ne (by decide), j_set_ne (by decide)]; exact j_67 h)]
  rw [put_self (ci := 11) (k := 41) (by rw [fld_put_k (by decide), fld_set_ne (by decide), fld_set_ne (by decide), fld_set_ne (by decide), fld_set_ne (by decide)]; exact i_40_41 h)]
  rw [put_self (ci := 11) (k := 42) (by rw [fld_put_k (by decide), fld_set_ne (by decide), fld_set_ne (by decide), fld_set_ne (by decide), fld_set_ne (by decide)]; exact i_40_42 h)]
  rw [put_self (ci := 11) (k := 43) (by rw [fld_put_k (by decide), fld_set_ne (by decide), fld_set_ne (by decide), fld_set_ne (by decide), fld_set_ne (by decide)]; exact i_40_43 h)]
theorem mRd_a (hle : t ≤ 120) : (nx (mSee σ t) t (mRd0 σ)).a ≤ t := nx_le (σ := σ) (mRd0 σ) (Nat.zero_le t)
theorem M_read (h : SH σ) (ht : gi σ 40 11 29 = nI t) (hle : t ≤ 120) (hw : gi σ 40 11 1 = nI nw) : ax k_M_read 0 [some (.ref 40), none] [] σ Q = Q (some (.int (mRd σ t nw).1)) (mSt σ (mRd σ t nw).2) := by
  obtain ⟨p, hp⟩ := nI_surj (gi σ 40 11 41)
  have hl := M_read_loop (Q := Q) h ht hle hw (t + 1) (nx (mSee σ t) t (mRd0 σ)) (mRd_a (σ := σ) hle) (by omega) none
  have hn := fun Q => M_nx (Q := Q) h ht hle (0, p, gi σ 40 11 42, gi σ 40 11 43, 0, 0, 0, ga σ 65 120, ga σ 66 120, ga σ 67 120, 0) (Nat.zero_le t)
  have en : nx (mSee σ t) t (0, p, gi σ 40 11 42, gi σ 40 11 43, 0, 0, 0, ga σ 65 120, ga σ 66 120, ga σ 67 120, 0) = nx (mSee σ t) t (mRd0 σ) := rfl
  rw [st_read h hp, en] at hn
  have hix := ix_nI (show 120 < 121 by omega) (by omega)
  have hcl : (nI 120).toNatClampNeg = 120 := nI_clamp (by omega)
  simp only [s_M_read_0, s_M_read_1, s_M_read_4, s_M_read_6, s_M_read_7, s_M_read_8, s_M_read_9, s_M_read_12, s_M_read_14, s_M_read_15, s_M_read_16, s_M_read_17, s_M_read_20, s_M_read_22, s_M_read_23, s_M_read_24, s_M_read_25, s_M_read_28, s_M_read_30, s_M_read_31, s_M_read_32, s_M_read_33, s_M_read_34, s_M_read_37, s_M_read_38, s_M_read_42, s_M_read_45, s_M_read_48, s_M_read_49, s_M_read_52, s_M_read_53, s_M_read_54, s_M_read_57, s_M_read_58, s_M_read_59, s_M_read_62, s_M_read_63, ↓reduceIte, Nat.reduceEqDiff, Nat.reduceLT, am_top, ax_f_some, ax_k_some, ax_k_none, s8_0, s8_1, s8_2, s8_3, s8_4, c2p_n, c2p_i, c2p_r, c2p_z, okvp_i, okvp_l, okvp_r, okvp_n, okvp_z, okvp_z0, okvp_z1, bi_narp, am_nar0p, am_nar1p, bi_0, bi_1, true_and, and_true, fld_set_ne, j_set_ne, q_set_ne, lv_set_ne, nv_set_ne, is_set_ne, j_set_eq, lv_set_eq, q_set_eq, nv_set_i, nv_set_l, nv_set_q, fld_put_ne, fld_put_k, fld_put_same, Option.map_some, j_put, q_put, lv_put, nv_put, is_put, put_1, set_1, i_40_0 h, i_40_1 h, i_40_2 h, i_40_3 h, r_40_4 h, r_40_5 h, r_40_6 h, i_40_7 h, r_40_8 h, r_40_9 h, r_40_10 h, r_40_11 h, r_40_12 h, i_40_13 h, r_40_14 h, r_40_15 h, r_40_16 h, r_40_17 h, i_40_18 h, i_40_19 h, r_40_20 h, r_40_21 h, r_40_22 h, i_40_23 h, r_40_24 h, r_40_25 h, r_40_26 h, r_40_27 h, r_40_28 h, i_40_29 h, r_40_30 h, r_40_31 h, r_40_32 h, r_40_33 h, r_40_34 h, r_40_35 h, r_40_36 h, r_40_37 h, i_40_38 h, i_40_39 h, i_40_40 h, i_40_41 h, i_40_42 h, i_40_43 h, i_40_44 h, i_40_45 h, r_40_46 h, r_40_47 h, r_40_48 h, r_40_49 h, r_40_50 h, r_40_51 h, r_40_52 h, r_40_53 h, r_40_54 h, r_40_55 h, r_40_56 h, r_40_57 h, r_40_58 h, i_40_59 h, i_40_60 h, r_40_61 h, o_40 h, j_62 h, n_62 h, j_63 h, n_63 h, j_64 h, n_64 h, l_68 h, n_68 h, e120, hix, hcl, not_false_eq_true, hn]
  exact hl
def mTxt0 (σ : am_H) (r : Int32 × MS) : am_H := am_put (am_put (am_put (mSt σ r.2) 40 38 (.int r.1)) 40 39 (.int (if r.1 = 0 then -1 else nI r.2.p))) 40 29 (.int 0)
theorem SH_Txt0 (h : SH σ) (r : Int32 × MS) : SH (mTxt0 σ r) := by
  unfold mTxt0
  exact SH_put_i (ci := 11) (SH_put_i (ci := 11) (SH_put_i (ci := 11) (SH_St h _) (by decide) (by decide)) (by decide) (by decide)) (by decide) (by decide)
/-- the text that was read is kept as the j-th, the picture i has v texts -/
def mTxt1 (σ : am_H) (j i : Nat) (v : Int32) : am_H :=
  am_set (am_set (am_set (am_set (am_set (am_set (am_set (am_set σ 62 (am_ia 0 121 (upd (ga σ 62) j (ga σ 62 120)))) 63 (am_ia 0 121 (upd (ga σ 63) j (ga σ 63 120)))) 64 (am_ia 0 121 (upd (ga σ 64) j (ga σ 64 120)))) 65 (am_ia 0 121 (upd (ga σ 65) j (ga σ 65 120)))) 66 (am_ia 0 121 (upd (ga σ 66) j (ga σ 66 120)))) 67 (am_ia 0 121 (upd (ga σ 67) j (ga σ 67 120)))) 68 (am_la 121 (vp_updL (gL σ 68) j (gL σ 68 120)))) 61 (am_ia 0 40 (upd (ga σ 61) i v))
theorem M_text_keep (h : SH σ) (h38 : gi σ 40 11 38 = 0) {i k : Nat} (hi : i < 40) (hk : k < 3) (hc : ga σ 61 i = nI k) : ax k_M_text 52 [some (.ref 40), some (.int (nI i)), none] [] σ Q = Q (some (.int (nI (k + 1)))) (mTxt1 σ (3 * i + k) i (nI (k + 1))) := by
  have hix0 := ix_nI (show 120 < 121 by omega) (by omega)
  have hcl0 : (nI 120).toNatClampNeg = 120 := nI_clamp (by omega)
  have hix1 := ix_nI (show 3 * i + k < 121 by omega) (by omega)
  have hcl1 : (nI (3 * i + k)).toNatClampNeg = 3 * i + k := nI_clamp (by omega)
  have hix2 := ix_nI (show i < 40 by omega) (by omega)
  have hcl2 : (nI i).toNatClampNeg = i := nI_clamp (by omega)
  simp only [s_M_text_0, s_M_text_1, s_M_text_2, s_M_text_5, s_M_text_8, s_M_text_9, s_M_text_12, s_M_text_13, s_M_text_14, s_M_text_15, s_M_text_18, s_M_text_19, s_M_text_20, s_M_text_21, s_M_text_22, s_M_text_25, s_M_text_28, s_M_text_29, s_M_text_30, s_M_text_33, s_M_text_36, s_M_text_37, s_M_text_40, s_M_text_41, s_M_text_44, s_M_text_47, s_M_text_48, s_M_text_49, s_M_text_52, s_M_text_53, s_M_text_56, s_M_text_59, s_M_text_60, s_M_text_61, s_M_text_62, s_M_text_63, s_M_text_64, s_M_text_65, s_M_text_68, s_M_text_69, s_M_text_70, s_M_text_71, s_M_text_72, s_M_text_73, s_M_text_76, s_M_text_77, s_M_text_78, s_M_text_81, s_M_text_83, s_M_text_84, s_M_text_85, s_M_text_86, s_M_text_89, s_M_text_90, s_M_text_91, s_M_text_94, s_M_text_96, s_M_text_97, s_M_text_98, s_M_text_99, s_M_text_102, s_M_text_103, s_M_text_104, s_M_text_107, s_M_text_109, s_M_text_110, s_M_text_111, s_M_text_112, s_M_text_115, s_M_text_116, s_M_text_117, s_M_text_120, s_M_text_122, s_M_text_123, s_M_text_124, s_M_text_125, s_M_text_128, s_M_text_129, s_M_text_130, s_M_text_133, s_M_text_135, s_M_text_136, s_M_text_137, s_M_text_138, s_M_text_141, s_M_text_142, s_M_text_143, s_M_text_146, s_M_text_148, s_M_text_149, s_M_text_150, s_M_text_151, s_M_text_154, s_M_text_155, s_M_text_156, s_M_text_159, s_M_text_161, s_M_text_162, s_M_text_163, s_M_text_164, s_M_text_167, s_M_text_168, s_M_text_169, s_M_text_170, s_M_text_171, s_M_text_172, s_M_text_173, s_M_text_174, s_M_text_177, s_M_text_178, s_M_text_179, ↓reduceIte, Nat.reduceEqDiff, Nat.reduceLT, am_top, ax_f_some, ax_k_some, ax_k_none, s8_0, s8_1, s8_2, s8_3, s8_4, c2p_n, c2p_i, c2p_r, c2p_z, okvp_i, okvp_l, okvp_r, okvp_n, okvp_z, okvp_z0, okvp_z1, bi_narp, am_nar0p, am_nar1p, bi_0, bi_1, true_and, and_true, fld_set_ne, j_set_ne, q_set_ne, lv_set_ne, nv_set_ne, is_set_ne, j_set_eq, lv_set_eq, q_set_eq, nv_set_i, nv_set_l, nv_set_q, fld_put_ne, fld_put_k, fld_put_same, Option.map_some, j_put, q_put, lv_put, nv_put, is_put, put_1, set_1, i_40_0 h, i_40_1 h, i_40_2 h, i_40_3 h, r_40_4 h, r_40_5 h, r_40_6 h, i_40_7 h, r_40_8 h, r_40_9 h, r_40_10 h, r_40_11 h, r_40_12 h, i_40_13 h, r_40_14 h, r_40_15 h, r_40_16 h, r_40_17 h, i_40_18 h, i_40_19 h, r_40_20 h, r_40_21 h, r_40_22 h, i_40_23 h, r_40_24 h, r_40_25 h, r_40_26 h, r_40_27 h, r_40_28 h, i_40_29 h, r_40_30 h, r_40_31 h, r_40_32 h, r_40_33 h, r_40_34 h, r_40_35 h, r_40_36 h, r_40_37 h, i_40_38 h, i_40_39 h, i_40_40 h, i_40_41 h, i_40_42 h, i_40_43 h, i_40_44 h, i_40_45 h, r_40_46 h, r_40_47 h, r_40_48 h, r_40_49 h, r_40_50 h, r_40_51 h, r_40_52 h, r_40_53 h, r_40_54 h, r_40_55 h, r_40_56 h, r_40_57 h, r_40_58 h, i_40_59 h, i_40_60 h, r_40_61 h, o_40 h, j_61 h, n_61 h, j_62 h, n_62 h, j_63 h, n_63 h, j_64 h, n_64 h, j_65 h, n_65 h, j_66 h, n_66 h, j_67 h, n_67 h, l_68 h, n_68 h, h38, hc, e3, e120, pk_mul, nI_add, nI_1, hix0, hix1, hix2, hcl0, hcl1, hcl2, not_false_eq_true, pk_us, mTxt1]
theorem M_text_no (h : SH σ) {np : Nat} (hp : gi σ 40 11 7 = nI np) (hnp : np ≤ 40) (pic : Int32) (hno : ¬ (inB pic 0 (nI np - 1) = true ∧ ¬ ga σ 61 pic.toNatClampNeg = 3)) : ax k_M_text 0 [some (.ref 40), some (.int pic), none] [] σ Q = Q (some (.int (-1))) σ := by
  by_cases c1 : inB pic 0 (nI np - 1) = true
  · have hx : am_ix pic 40 = True := by
      obtain ⟨j, hj, rfl⟩ := inB_ix hnp (by omega) c1
      exact ix_nI (by omega) (by omega)
    have c2 : ga σ 61 pic.toNatClampNeg = 3 := Classical.byContradiction fun z => hno ⟨c1, z⟩
    simp only [s_M_text_0, s_M_text_1, s_M_text_2, s_M_text_5, s_M_text_8, s_M_text_9, s_M_text_12, s_M_text_13, s_M_text_14, s_M_text_15, s_M_text_18, s_M_text_19, s_M_text_20, s_M_text_21, s_M_text_22, s_M_text_25, s_M_text_28, s_M_text_29, s_M_text_30, s_M_text_33, s_M_text_36, s_M_text_37, s_M_text_40, s_M_text_41, s_M_text_44, s_M_text_47, s_M_text_48, s_M_text_49, s_M_text_52, s_M_text_53, s_M_text_56, s_M_text_59, s_M_text_60, s_M_text_61, s_M_text_62, s_M_text_63, s_M_text_64, s_M_text_65, s_M_text_68, s_M_text_69, s_M_text_70, s_M_text_71, s_M_text_72, s_M_text_73, s_M_text_76, s_M_text_77, s_M_text_78, s_M_text_81, s_M_text_83, s_M_text_84, s_M_text_85, s_M_text_86, s_M_text_89, s_M_text_90, s_M_text_91, s_M_text_94, s_M_text_96, s_M_text_97, s_M_text_98, s_M_text_99, s_M_text_102, s_M_text_103, s_M_text_104, s_M_text_107, s_M_text_109, s_M_text_110, s_M_text_111, s_M_text_112, s_M_text_115, s_M_text_116, s_M_text_117, s_M_text_120, s_M_text_122, s_M_text_123, s_M_text_124, s_M_text_125, s_M_text_128, s_M_text_129, s_M_text_130, s_M_text_133, s_M_text_135, s_M_text_136, s_M_text_137, s_M_text_138, s_M_text_141, s_M_text_142, s_M_text_143, s_M_text_146, s_M_text_148, s_M_text_149, s_M_text_150, s_M_text_151, s_M_text_154, s_M_text_155, s_M_text_156, s_M_text_159, s_M_text_161, s_M_text_162, s_M_text_163, s_M_text_164, s_M_text_167, s_M_text_168, s_M_text_169, s_M_text_170, s_M_text_171, s_M_text_172, s_M_text_173, s_M_text_174, s_M_text_177, s_M_text_178, s_M_text_179, ↓reduceIte, Nat.reduceEqDiff, Nat.reduceLT, am_top, ax_f_some, ax_k_some, ax_k_none, s8_0, s8_1, s8_2, s8_3, s8_4, c2p_n, c2p_i, c2p_r, c2p_z, okvp_i, okvp_l, okvp_r, okvp_n, okvp_z, okvp_z0, okvp_z1, bi_narp, am_nar0p, am_nar1p, bi_0, bi_1, true_and, and_true, i_40_0 h, i_40_1 h, i_40_2 h, i_40_3 h, r_40_4 h, r_40_5 h, r_40_6 h, i_40_7 h, r_40_8 h, r_40_9 h, r_40_10 h, r_40_11 h, r_40_12 h, i_40_13 h, r_40_14 h, r_40_15 h, r_40_16 h, r_40_17 h, i_40_18 h, i_40_19 h, r_40_20 h, r_40_21 h, r_40_22 h, i_40_23 h, r_40_24 h, r_40_25 h, r_40_26 h, r_40_27 h, r_40_28 h, i_40_29 h, r_40_30 h, r_40_31 h, r_40_32 h, r_40_33 h, r_40_34 h, r_40_35 h, r_40_36 h, r_40_37 h, i_40_38 h, i_40_39 h, i_40_40 h, i_40_41 h, i_40_42 h, i_40_43 h, i_40_44 h, i_40_45 h, r_40_46 h, r_40_47 h, r_40_48 h, r_40_49 h, r_40_50 h, r_40_51 h, r_40_52 h, r_40_53 h, r_40_54 h, r_40_55 h, r_40_56 h, r_40_57 h, r_40_58 h, i_40_59 h, i_40_60 h, r_40_61 h, o_40 h, j_61 h, n_61 h, M_isPicture 40 _ _ (i_40_7 h), hp, c1, c2, hx, Bool.true_eq_false]
  · have c1' : inB pic 0 (nI np - 1) = false := by simpa using c1
    simp only [s_M_text_0, s_M_text_1, s_M_text_2, s_M_text_5, s_M_text_8, s_M_text_9, s_M_text_12, s_M_text_13, s_M_text_14, s_M_text_15, s_M_text_18, s_M_text_19, s_M_text_20, s_M_text_21, s_M_text_22, s_M_text_25, s_M_text_28, s_M_text_29, s_M_text_30, s_M_text_33, s_M_text_36, s_M_text_37, s_M_text_40, s_M_text_41, s_M_text_44, s_M_text_47, s_M_text_48, s_M_text_49, s_M_text_52, s_M_text_53, s_M_text_56, s_M_text_59, s_M_text_60, s_M_text_61, s_M_text_62, s_M_text_63, s_M_text_64, s_M_text_65, s_M_text_68, s_M_text_69, s_M_text_70, s_M_text_71, s_M_text_72, s_M_text_73, s_M_text_76, s_M_text_77, s_M_text_78, s_M_text_81, s_M_text_83, s_M_text_84, s_M_text_85, s_M_text_86, s_M_text_89, s_M_text_90, s_M_text_91, s_M_text_94, s_M_text_96, s_M_text_97, s_M_text_98, s_M_text_99, s_M_text_102, s_M_text_103, s_M_text_104, s_M_text_107, s_M_text_109, s_M_text_110, s_M_text_111, s_M_text_112, s_M_text_115, s_M_text_116, s_M_text_117, s_M_text_120, s_M_text_122, s_M_text_123, s_M_text_124, s_M_text_125, s_M_text_128, s_M_text_129, s_M_text_130, s_M_text_133, s_M_text_135, s_M_text_136, s_M_text_137, s_M_text_138, s_M_text_141, s_M_text_142, s_M_text_143, s_M_text_146, s_M_text_148, s_M_text_149, s_M_text_150, s_M_text_151, s_M_text_154, s_M_text_155, s_M_text_156, s_M_text_159, s_M_text_161, s_M_text_162, s_M_text_163, s_M_text_164, s_M_text_167, s_M_text_168, s_M_text_169, s_M_text_170, s_M_text_171, s_M_text_172, s_M_text_173, s_M_text_174, s_M_text_177, s_M_text_178, s_M_text_179, ↓reduceIte, Nat.reduceEqDiff, Nat.reduceLT, am_top, ax_f_some, ax_k_some, ax_k_none, s8_0, s8_1, s8_2, s8_3, s8_4, c2p_n, c2p_i, c2p_r, c2p_z, okvp_i, okvp_l, okvp_r, okvp_n, okvp_z, okvp_z0, okvp_z1, bi_narp, am_nar0p, am_nar1p, bi_0, bi_1, true_and, and_true, i_40_0 h, i_40_1 h, i_40_2 h, i_40_3 h, r_40_4 h, r_40_5 h, r_40_6 h, i_40_7 h, r_40_8 h, r_40_9 h, r_40_10 h, r_40_11 h, r_40_12 h, i_40_13 h, r_40_14 h, r_40_15 h, r_40_16 h, r_40_17 h, i_40_18 h, i_40_19 h, r_40_20 h, r_40_21 h, r_40_22 h, i_40_23 h, r_40_24 h, r_40_25 h, r_40_26 h, r_40_27 h, r_40_28 h, i_40_29 h, r_40_30 h, r_40_31 h, r_40_32 h, r_40_33 h, r_40_34 h, r_40_35 h, r_40_36 h, r_40_37 h, i_40_38 h, i_40_39 h, i_40_40 h, i_40_41 h, i_40_42 h, i_40_43 h, i_40_44 h, i_40_45 h, r_40_46 h, r_40_47 h, r_40_48 h, r_40_49 h, r_40_50 h, r_40_51 h, r_40_52 h, r_40_53 h, r_40_54 h, r_40_55 h, r_40_56 h, r_40_57 h, r_40_58 h, i_40_59 h, i_40_60 h, r_40_61 h, o_40 h, j_61 h, n_61 h, M_isPicture 40 _ _ (i_40_7 h), hp, c1', Bool.false_eq_true]
theorem M_text (h : SH σ) (ht : gi σ 40 11 29 = nI t) (hle : t ≤ 120) (hw : gi σ 40 11 1 = nI nw) {np : Nat} (hp : gi σ 40 11 7 = nI np) (hnp : np ≤ 40) {i k : Nat} (hi : i < np) (hk : k < 3) (hc : ga σ 61 i = nI k) : ax k_M_text 0 [some (.ref 40), some (.int (nI i)), none] [] σ Q = (if (mRd σ t nw).1 = 0 then Q (some (.int (nI (k + 1)))) (mTxt1 (mTxt0 σ (mRd σ t nw)) (3 * i + k) i (nI (k + 1))) else Q (some (.int (-1))) (mTxt0 σ (mRd σ t nw))) := by
  have hix := ix_nI (show i < 40 by omega) (by omega)
  have hcl : (nI i).toNatClampNeg = i := nI_clamp (by omega)
  have b1 := inB_nI (show np < 2 ^ 31 by omega) hi
  have hne : (nI k = 3) = False := by rw [e3, nI_eqc (by omega) (by omega)]; exact eq_false (by omega)
  have hr := fun Q => M_read (Q := Q) h ht hle hw
  generalize hrd : mRd σ t nw = r at hr ⊢
  have hs := SH_St h r.2
  have hX := SH_Txt0 h r
  have hg := fun (h38 : gi (mTxt0 σ r) 40 11 38 = 0) (hc' : ga (mTxt0 σ r) 61 i = nI k) => M_text_keep (Q := Q) hX h38 (show i < 40 by omega) hk hc'
  have g38 : gi (mTxt0 σ r) 40 11 38 = r.1 := by
    unfold mTxt0
    rw [gi_put_k (by decide), gi_put_k (by decide)]
    exact gi_put_eq (i_40_38 hs)
  have g61 : ga (mTxt0 σ r) 61 = ga σ 61 := by
    unfold mTxt0
    rw [ga_put, ga_put, ga_put]
    unfold mSt
    rw [tok_ga, scr_ga _ _ (by decide)]
  have go : ax k_M_text 0 [some (.ref 40), some (.int (nI i)), none] [] σ Q = ax k_M_text 52 [some (.ref 40), some (.int (nI i)), none] [] (mTxt0 σ r) Q := by
    simp only [s_M_text_0, s_M_text_1, s_M_text_2, s_M_text_5, s_M_text_8, s_M_text_9, s_M_text_12, s_M_text_13, s_M_text_14, s_M_text_15, s_M_text_18, s_M_text_19, s_M_text_20, s_M_text_21, s_M_text_22, s_M_text_25, s_M_text_28, s_M_text_29, s_M_text_30, s_M_text_33, s_M_text_36, s_M_text_37, s_M_text_40, s_M_text_41, s_M_text_44, s_M_text_47, s_M_text_48, s_M_text_49, s_M_text_53, s_M_text_56, s_M_text_59, s_M_text_60, s_M_text_61, s_M_text_62, s_M_text_63, s_M_text_64, s_M_text_65, s_M_text_68, s_M_text_69, s_M_text_70, s_M_text_71, s_M_text_72, s_M_text_73, s_M_text_76, s_M_text_77, s_M_text_78, s_M_text_81, s_M_text_83, s_M_text_84, s_M_text_85, s_M_text_86, s_M_text_89, s_M_text_90, s_M_text_91, s_M_text_94, s_M_text_96, s_M_text_97, s_M_text_98, s_M_text_99, s_M_text_102, s_M_text_103, s_M_text_104, s_M_text_107, s_M_text_109, s_M_text_110, s_M_text_111, s_M_text_112, s_M_text_115, s_M_text_116, s_M_text_117, s_M_text_120, s_M_text_122, s_M_text_123, s_M_text_124, s_M_text_125, s_M_text_128, s_M_text_129, s_M_text_130, s_M_text_133, s_M_text_135, s_M_text_136, s_M_text_137, s_M_text_138, s_M_text_141, s_M_text_142, s_M_text_143, s_M_text_146, s_M_text_148, s_M_text_149, s_M_text_150, s_M_text_151, s_M_text_154, s_M_text_155, s_M_text_156, s_M_text_159, s_M_text_161, s_M_text_162, s_M_text_163, s_M_text_164, s_M_text_167, s_M_text_168, s_M_text_169, s_M_text_170, s_M_text_171, s_M_text_172, s_M_text_173, s_M_text_174, s_M_text_177, s_M_text_178, s_M_text_179, ↓reduceIte, Nat.reduceEqDiff, Nat.reduceLT, am_top, ax_f_some, ax_k_some, ax_k_none, s8_0, s8_1, s8_2, s8_3, s8_4, c2p_n, c2p_i, c2p_r, c2p_z, okvp_i, okvp_l, okvp_r, okvp_n, okvp_z, okvp_z0, okvp_z1, bi_narp, am_nar0p, am_nar1p, bi_0, bi_1, true_and, and_true, fld_set_ne, j_set_ne, q_set_ne, lv_set_ne, nv_set_ne, is_set_ne, j_set_eq, lv_set_eq, q_set_eq, nv_set_i, nv_set_l, nv_set_q, fld_put_ne, fld_put_k, fld_put_same, Option.map_some, j_put, q_put, lv_put, nv_put, is_put, put_1, set_1, i_40_0 h, i_40_1 h, i_40_2 h, i_40_3 h, r_40_4 h, r_40_5 h, r_40_6 h, i_40_7 h, r_40_8 h, r_40_9 h, r_40_10 h, r_40_11 h, r_40_12 h, i_40_13 h, r_40_14 h, r_40_15 h, r_40_16 h, r_40_17 h, i_40_18 h, i_40_19 h, r_40_20 h, r_40_21 h, r_40_22 h, i_40_23 h, r_40_24 h, r_40_25 h, r_40_26 h, r_40_27 h, r_40_28 h, i_40_29 h, r_40_30 h, r_40_31 h, r_40_32 h, r_40_33 h, r_40_34 h, r_40_35 h, r_40_36 h, r_40_37 h, i_40_38 h, i_40_39 h, i_40_40 h, i_40_41 h, i_40_42 h, i_40_43 h, i_40_44 h, i_40_45 h, r_40_46 h, r_40_47 h, r_40_48 h, r_40_49 h, r_40_50 h, r_40_51 h, r_40_52 h, r_40_53 h, r_40_54 h, r_40_55 h, r_40_56 h, r_40_57 h, r_40_58 h, i_40_59 h, i_40_60 h, r_40_61 h, o_40 h, j_61 h, n_61 h, i_40_0 hs, i_40_1 hs, i_40_2 hs, i_40_3 hs, r_40_4 hs, r_40_5 hs, r_40_6 hs, i_40_7 hs, r_40_8 hs, r_40_9 hs, r_40_10 hs, r_40_11 hs, r_40_12 hs, i_40_13 hs, r_40_14 hs, r_40_15 hs, r_40_16 hs, r_40_17 hs, i_40_18 hs, i_40_19 hs, r_40_20 hs, r_40_21 hs, r_40_22 hs, i_40_23 hs, r_40_24 hs, r_40_25 hs, r_40_26 hs, r_40_27 hs, r_40_28 hs, i_40_29 hs, r_40_30 hs, r_40_31 hs, r_40_32 hs, r_40_33 hs, r_40_34 hs, r_40_35 hs, r_40_36 hs, r_40_37 hs, i_40_38 hs, i_40_39 hs, i_40_40 hs, i_40_41 hs, i_40_42 hs, i_40_43 hs, i_40_44 hs, i_40_45 hs, r_40_46 hs, r_40_47 hs, r_40_48 hs, r_40_49 hs, r_40_50 hs, r_40_51 hs, r_40_52 hs, r_40_53 hs, r_40_54 hs, r_40_55 hs, r_40_56 hs, r_40_57 hs, r_40_58 hs, i_40_59 hs, i_40_60 hs, r_40_61 hs, o_40 hs, j_61 hs, n_61 hs, M_isPicture 40 _ _ (i_40_7 h), hp, b1, hix, hcl, hc, hne, hr, st_p h, not_false_eq_true, Bool.true_eq_false, mTxt0]
    by_cases c : r.1 = 0
    · simp only [if_pos c]
    · simp only [if_neg c]
  rw [go]
  by_cases c : r.1 = 0
  · rw [if_pos c]
    exact hg (by rw [g38, c]) (by rw [g61, hc])
  · rw [if_neg c]
    simp only [s_M_text_0, s_M_text_1, s_M_text_2, s_M_text_5, s_M_text_8, s_M_text_9, s_M_text_12, s_M_text_13, s_M_text_14, s_M_text_15, s_M_text_18, s_M_text_19, s_M_text_20, s_M_text_21, s_M_text_22, s_M_text_25, s_M_text_28, s_M_text_29, s_M_text_30, s_M_text_33, s_M_text_36, s_M_text_37, s_M_text_40, s_M_text_41, s_M_text_44, s_M_text_47, s_M_text_48, s_M_text_49, s_M_text_52, s_M_text_53, s_M_text_56, s_M_text_59, s_M_text_60, s_M_text_61, s_M_text_62, s_M_text_63, s_M_text_64, s_M_text_65, s_M_text_68, s_M_text_69, s_M_text_70, s_M_text_71, s_M_text_72, s_M_text_73, s_M_text_76, s_M_text_77, s_M_text_78, s_M_text_81, s_M_text_83, s_M_text_84, s_M_text_85, s_M_text_86, s_M_text_89, s_M_text_90, s_M_text_91, s_M_text_94, s_M_text_96, s_M_text_97, s_M_text_98, s_M_text_99, s_M_text_102, s_M_text_103, s_M_text_104, s_M_text_107, s_M_text_109, s_M_text_110, s_M_text_111, s_M_text_112, s_M_text_115, s_M_text_116, s_M_text_117, s_M_text_120, s_M_text_122, s_M_text_123, s_M_text_124, s_M_text_125, s_M_text_128, s_M_text_129, s_M_text_130, s_M_text_133, s_M_text_135, s_M_text_136, s_M_text_137, s_M_text_138, s_M_text_141, s_M_text_142, s_M_text_143, s_M_text_146, s_M_text_148, s_M_text_149, s_M_text_150, s_M_text_151, s_M_text_154, s_M_text_155, s_M_text_156, s_M_text_159, s_M_text_161, s_M_text_162, s_M_text_163, s_M_text_164, s_M_text_167, s_M_text_168, s_M_text_169, s_M_text_170, s_M_text_171, s_M_text_172, s_M_text_173, s_M_text_174, s_M_text_177, s_M_text_178, s_M_text_179, ↓reduceIte, Nat.reduceEqDiff, Nat.reduceLT, am_top, ax_f_some, ax_k_some, ax_k_none, s8_0, s8_1, s8_2, s8_3, s8_4, c2p_n, c2p_i, c2p_r, c2p_z, okvp_i, okvp_l, okvp_r, okvp_n, okvp_z, okvp_z0, okvp_z1, bi_narp, am_nar0p, am_nar1p, bi_0, bi_1, true_and, and_true, i_40_0 hX, i_40_1 hX, i_40_2 hX, i_40_3 hX, r_40_4 hX, r_40_5 hX, r_40_6 hX, i_40_7 hX, r_40_8 hX, r_40_9 hX, r_40_10 hX, r_40_11 hX, r_40_12 hX, i_40_13 hX, r_40_14 hX, r_40_15 hX, r_40_16 hX, r_40_17 hX, i_40_18 hX, i_40_19 hX, r_40_20 hX, r_40_21 hX, r_40_22 hX, i_40_23 hX, r_40_24 hX, r_40_25 hX, r_40_26 hX, r_40_27 hX, r_40_28 hX, i_40_29 hX, r_40_30 hX, r_40_31 hX, r_40_32 hX, r_40_33 hX, r_40_34 hX, r_40_35 hX, r_40_36 hX, r_40_37 hX, i_40_38 hX, i_40_39 hX, i_40_40 hX, i_40_41 hX, i_40_42 hX, i_40_43 hX, i_40_44 hX, i_40_45 hX, r_40_46 hX, r_40_47 hX, r_40_48 hX, r_40_49 hX, r_40_50 hX, r_40_51 hX, r_40_52 hX, r_40_53 hX, r_40_54 hX, r_40_55 hX, r_40_56 hX, r_40_57 hX, r_40_58 hX, i_40_59 hX, i_40_60 hX, r_40_61 hX, o_40 hX, g38, if_neg c]
end T3
