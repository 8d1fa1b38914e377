/-! THE REFERENCE, 11: tokens -/
section TK
variable {σ : am_H} {Q : Option Value → am_H → Prop} {a k j : Nat} {v w : Value}
theorem put_comm (h : ¬ j = k) : am_put (am_put σ a k v) a j w = am_put (am_put σ a j w) a k v := by
  cases hg : am_get σ a with
  | none =>
    have e : ∀ i u, am_put σ a i u = σ := fun i u => by unfold am_put; rw [hg]
    simp only [e]
  | some x =>
    cases x with
    | inr o =>
      have e : ∀ i u, am_put σ a i u = σ := fun i u => by unfold am_put; rw [hg]
      simp only [e]
    | inl o =>
      have e : ∀ i u, am_put σ a i u = am_set σ a (.inl (o.1, o.2.set i u)) := fun i u => by unfold am_put; rw [hg]
      rw [e, e]
      have e2 : ∀ (l : List Value) i u, am_put (am_set σ a (.inl (o.1, l))) a i u = am_set σ a (.inl (o.1, l.set i u)) := fun l i u => by
        unfold am_put
        rw [get_set_eq]
        show am_set (am_set σ a _) a _ = _
        rw [set_set]
      rw [e2, e2, List.set_comm _ _ (fun z => h z.symm)]
theorem put_self {ci : Nat} (h : am_fld σ a ci k = some v) : am_put σ a k v = σ := by
  unfold am_fld at h
  unfold am_put
  cases hg : am_get σ a with
  | none => rfl
  | some x =>
    cases x with
    | inr o => rfl
    | inl o =>
      rw [hg] at h
      dsimp only at h ⊢
      split at h
      · have e : o.2.set k v = o.2 := by
          have hl := (List.getElem?_eq_some_iff.mp h).1
          have hv := (List.getElem?_eq_some_iff.mp h).2
          rw [← hv]
          exact List.set_getElem_self hl
        rw [e]
        unfold am_set
        refine Prod.ext rfl (Prod.ext rfl ?_)
        funext x
        by_cases hx : x = a
        · subst hx
          simp only [↓reduceIte]
          exact hg.symm
        · simp only [hx, ↓reduceIte]
      · cases h
def mTok (σ : am_H) (at' pl tk nm : Int32) : am_H := am_put (am_put (am_put (am_put σ 40 40 (.int at')) 40 41 (.int pl)) 40 42 (.int tk)) 40 43 (.int nm)
theorem SH_Tok (h : SH σ) (x y z u : Int32) : SH (mTok σ x y z u) := by
  unfold mTok
  exact SH_put_i (ci := 11) (SH_put_i (ci := 11) (SH_put_i (ci := 11) (SH_put_i (ci := 11) h (by decide) (by decide)) (by decide) (by decide)) (by decide) (by decide)) (by decide) (by decide)
theorem tok_at (x y z u x' : Int32) : am_put (mTok σ x y z u) 40 40 (.int x') = mTok σ x' y z u := by
  unfold mTok
  rw [put_comm (j := 40) (k := 43) (by decide), put_comm (j := 40) (k := 42) (by decide), put_comm (j := 40) (k := 41) (by decide), put_put]
theorem tok_pl (x y z u y' : Int32) : am_put (mTok σ x y z u) 40 41 (.int y') = mTok σ x y' z u := by
  unfold mTok
  rw [put_comm (j := 41) (k := 43) (by decide), put_comm (j := 41) (k := 42) (by decide), put_put]
theorem tok_tk (x y z u z' : Int32) : am_put (mTok σ x y z u) 40 42 (.int z') = mTok σ x y z' u := by
  unfold mTok
  rw [put_comm (j := 42) (k := 43) (by decide), put_put]
theorem tok_nm (x y z u u' : Int32) : am_put (mTok σ x y z u) 40 43 (.int u') = mTok σ x y z u' := by
  unfold mTok
  rw [put_put]
theorem tok_ga (x y z u : Int32) (b : Nat) : ga (mTok σ x y z u) b = ga σ b := by
  unfold mTok
  rw [ga_put, ga_put, ga_put, ga_put]
theorem tok_gi (x y z u : Int32) {i : Nat} (h0 : ¬ i = 40) (h1 : ¬ i = 41) (h2 : ¬ i = 42) (h3 : ¬ i = 43) : gi (mTok σ x y z u) 40 11 i = gi σ 40 11 i := by
  unfold mTok
  rw [gi_put_k h3, gi_put_k h2, gi_put_k h1, gi_put_k h0]
theorem tok_g40 (h : SH σ) (x y z u : Int32) : gi (mTok σ x y z u) 40 11 40 = x := by
  unfold mTok
  rw [gi_put_k (by decide), gi_put_k (by decide), gi_put_k (by decide)]
  exact gi_put_eq (i_40_40 h)
theorem tok_g41 (h : SH σ) (x y z u : Int32) : gi (mTok σ x y z u) 40 11 41 = y := by
  unfold mTok
  rw [gi_put_k (by decide), gi_put_k (by decide)]
  refine gi_put_eq (w := .int (gi σ 40 11 41)) ?_
  rw [fld_put_k (by decide)]
  exact i_40_41 h
theorem tok_g42 (h : SH σ) (x y z u : Int32) : gi (mTok σ x y z u) 40 11 42 = z := by
  unfold mTok
  rw [gi_put_k (by decide)]
  refine gi_put_eq (w := .int (gi σ 40 11 42)) ?_
  rw [fld_put_k (by decide), fld_put_k (by decide)]
  exact i_40_42 h
theorem tok_g43 (h : SH σ) (x y z u : Int32) : gi (mTok σ x y z u) 40 11 43 = u := by
  unfold mTok
  refine gi_put_eq (w := .int (gi σ 40 11 43)) ?_
  rw [fld_put_k (by decide), fld_put_k (by decide), fld_put_k (by decide)]
  exact i_40_43 h
theorem tok_self (h : SH σ) : mTok σ (gi σ 40 11 40) (gi σ 40 11 41) (gi σ 40 11 42) (gi σ 40 11 43) = σ := by
  unfold mTok
  rw [put_self (i_40_40 h), put_self (i_40_41 h), put_self (i_40_42 h), put_self (i_40_43 h)]
/-- the byte at a place of the tape, -1 behind it -/
def mSee (σ : am_H) (t j : Nat) : Int32 := if j < t then ga σ 60 j else -1
/-- the first place from j on that holds no blank -/
def skipR (T : Nat → Int32) : Nat → Nat → Nat
  | 0, j => j
  | n + 1, j => if T j = 32 then skipR T n (j + 1) else j
theorem M_next_skip (h : SH σ) {t : Nat} (ht : gi σ 40 11 29 = nI t) (hle : t ≤ 120) (y z u : Int32) (z1 z2 : Option Value) (A : Prop) : ∀ n i, i + n = t + 1 → ax k_M_nextToken 26 [some (.ref 40), z1, z2] [] (mTok σ (nI (skipR (mSee σ t) n i)) y z u) Q = A → ax k_M_nextToken 0 [some (.ref 40), z1, z2] [] (mTok σ (nI i) y z u) Q = A := by
  intro n
  induction n with
  | zero =>
    intro i hi hA
    have hs := SH_Tok h (nI i) y z u
    have g1 : gi (mTok σ (nI i) y z u) 40 11 29 = nI t := by rw [tok_gi _ _ _ _ (by decide) (by decide) (by decide) (by decide)]; exact ht
    have n32 : ((-1 : Int32) = 32) = False := eq_false (by decide)
    rw [s_M_nextToken_0]
    simp only [s_M_nextToken_1, s_M_nextToken_2, s_M_nextToken_5, s_M_nextToken_8, s_M_nextToken_10, s_M_nextToken_13, s_M_nextToken_14, s_M_nextToken_15, s_M_nextToken_18, s_M_nextToken_19, s_M_nextToken_20, s_M_nextToken_23, s_M_nextToken_27, s_M_nextToken_28, s_M_nextToken_31, s_M_nextToken_34, s_M_nextToken_35, s_M_nextToken_36, s_M_nextToken_39, s_M_nextToken_42, s_M_nextToken_43, s_M_nextToken_44, s_M_nextToken_47, s_M_nextToken_48, s_M_nextToken_49, s_M_nextToken_52, s_M_nextToken_55, s_M_nextToken_56, s_M_nextToken_59, s_M_nextToken_62, s_M_nextToken_63, s_M_nextToken_64, s_M_nextToken_67, s_M_nextToken_68, s_M_nextToken_69, s_M_nextToken_72, s_M_nextToken_73, s_M_nextToken_74, s_M_nextToken_77, s_M_nextToken_80, s_M_nextToken_83, s_M_nextToken_86, s_M_nextToken_87, s_M_nextToken_90, s_M_nextToken_93, s_M_nextToken_96, s_M_nextToken_97, s_M_nextToken_99, s_M_nextToken_100, s_M_nextToken_103, s_M_nextToken_104, s_M_nextToken_105, s_M_nextToken_106, s_M_nextToken_109, s_M_nextToken_112, s_M_nextToken_113, s_M_nextToken_115, s_M_nextToken_116, s_M_nextToken_119, s_M_nextToken_120, s_M_nextToken_121, s_M_nextToken_124, s_M_nextToken_125, s_M_nextToken_126, s_M_nextToken_129, s_M_nextToken_132, s_M_nextToken_133, s_M_nextToken_136, s_M_nextToken_139, s_M_nextToken_140, s_M_nextToken_141, s_M_nextToken_142, s_M_nextToken_143, s_M_nextToken_146, s_M_nextToken_149, s_M_nextToken_152, s_M_nextToken_155, s_M_nextToken_156, s_M_nextToken_159, s_M_nextToken_160, s_M_nextToken_163, s_M_nextToken_164, s_M_nextToken_165, s_M_nextToken_168, s_M_nextToken_169, s_M_nextToken_171, s_M_nextToken_172, s_M_nextToken_173, s_M_nextToken_174, s_M_nextToken_177, s_M_nextToken_180, s_M_nextToken_181, s_M_nextToken_182, s_M_nextToken_183, s_M_nextToken_184, s_M_nextToken_187, s_M_nextToken_188, s_M_nextToken_189, s_M_nextToken_192, s_M_nextToken_195, s_M_nextToken_196, s_M_nextToken_197, s_M_nextToken_200, s_M_nextToken_201, s_M_nextToken_204, s_M_nextToken_205, s_M_nextToken_206, s_M_nextToken_209, s_M_nextToken_210, s_M_nextToken_213, s_M_nextToken_214, s_M_nextToken_217, s_M_nextToken_220, s_M_nextToken_223, s_M_nextToken_224, s_M_nextToken_225, s_M_nextToken_227, s_M_nextToken_230, s_M_nextToken_231, s_M_nextToken_234, s_M_nextToken_235, s_M_nextToken_238, s_M_nextToken_239, s_M_nextToken_240, s_M_nextToken_243, s_M_nextToken_244, s_M_nextToken_245, s_M_nextToken_248, ↓reduceIte, Nat.reduceEqDiff, Nat.reduceLT, am_top, ax_f_some, ax_k_some, ax_k_none, s8_0, s8_1, s8_2, s8_3, s8_4, c2p_n, c2p_i, c2p_r, c2p_z, okvp_i, okvp_l, okvp_r, okvp_n, okvp_z, okvp_z0, okvp_z1, bi_narp, am_nar0p, am_nar1p, bi_0, bi_1, true_and, and_true, i_40_0 hs, i_40_1 hs, i_40_2 hs, i_40_3 hs, r_40_4 hs, r_40_5 hs, r_40_6 hs, i_40_7 hs, r_40_8 hs, r_40_9 hs, r_40_10 hs, r_40_11 hs, r_40_12 hs, i_40_13 hs, r_40_14 hs, r_40_15 hs, r_40_16 hs, r_40_17 hs, i_40_18 hs, i_40_19 hs, r_40_20 hs, r_40_21 hs, r_40_22 hs, i_40_23 hs, r_40_24 hs, r_40_25 hs, r_40_26 hs, r_40_27 hs, r_40_28 hs, i_40_29 hs, r_40_30 hs, r_40_31 hs, r_40_32 hs, r_40_33 hs, r_40_34 hs, r_40_35 hs, r_40_36 hs, r_40_37 hs, i_40_38 hs, i_40_39 hs, i_40_40 hs, i_40_41 hs, i_40_42 hs, i_40_43 hs, i_40_44 hs, i_40_45 hs, r_40_46 hs, r_40_47 hs, r_40_48 hs, r_40_49 hs, r_40_50 hs, r_40_51 hs, r_40_52 hs, r_40_53 hs, r_40_54 hs, r_40_55 hs, r_40_56 hs, r_40_57 hs, r_40_58 hs, i_40_59 hs, i_40_60 hs, r_40_61 hs, o_40 hs, tok_g40 h, M_see hs g1 hle (show i < 1000 by omega), show ¬ i < t by omega, n32]
    exact hA
  | succ n ih =>
    intro i hi hA
    have hs := SH_Tok h (nI i) y z u
    have g1 : gi (mTok σ (nI i) y z u) 40 11 29 = nI t := by rw [tok_gi _ _ _ _ (by decide) (by decide) (by decide) (by decide)]; exact ht
    rw [s_M_nextToken_0]
    simp only [s_M_nextToken_1, s_M_nextToken_2, s_M_nextToken_5, s_M_nextToken_8, s_M_nextToken_10, s_M_nextToken_13, s_M_nextToken_14, s_M_nextToken_15, s_M_nextToken_18, s_M_nextToken_19, s_M_nextToken_20, s_M_nextToken_23, s_M_nextToken_27, s_M_nextToken_28, s_M_nextToken_31, s_M_nextToken_34, s_M_nextToken_35, s_M_nextToken_36, s_M_nextToken_39, s_M_nextToken_42, s_M_nextToken_43, s_M_nextToken_44, s_M_nextToken_47, s_M_nextToken_48, s_M_nextToken_49, s_M_nextToken_52, s_M_nextToken_55, s_M_nextToken_56, s_M_nextToken_59, s_M_nextToken_62, s_M_nextToken_63, s_M_nextToken_64, s_M_nextToken_67, s_M_nextToken_68, s_M_nextToken_69, s_M_nextToken_72, s_M_nextToken_73, s_M_nextToken_74, s_M_nextToken_77, s_M_nextToken_80, s_M_nextToken_83, s_M_nextToken_86, s_M_nextToken_87, s_M_nextToken_90, s_M_nextToken_93, s_M_nextToken_96, s_M_nextToken_97, s_M_nextToken_99, s_M_nextToken_100, s_M_nextToken_103, s_M_nextToken_104, s_M_nextToken_105, s_M_nextToken_106, s_M_nextToken_109, s_M_nextToken_112, s_M_nextToken_113, s_M_nextToken_115, s_M_nextToken_116, s_M_nextToken_119, s_M_nextToken_120, s_M_nextToken_121, s_M_nextToken_124, s_M_nextToken_125, s_M_nextToken_126, s_M_nextToken_129, s_M_nextToken_132, s_M_nextToken_133, s_M_nextToken_136, s_M_nextToken_139, s_M_nextToken_140, s_M_nextToken_141, s_M_nextToken_142, s_M_nextToken_143, s_M_nextToken_146, s_M_nextToken_149, s_M_nextToken_152, s_M_nextToken_155, s_M_nextToken_156, s_M_nextToken_159, s_M_nextToken_160, s_M_nextToken_163, s_M_nextToken_164, s_M_nextToken_165, s_M_nextToken_168, s_M_nextToken_169, s_M_nextToken_171, s_M_nextToken_172, s_M_nextToken_173, s_M_nextToken_174, s_M_nextToken_177, s_M_nextToken_180, s_M_nextToken_181, s_M_nextToken_182, s_M_nextToken_183, s_M_nextToken_184, s_M_nextToken_187, s_M_nextToken_188, s_M_nextToken_189, s_M_nextToken_192, s_M_nextToken_195, s_M_nextToken_196, s_M_nextToken_197, s_M_nextToken_200, s_M_nextToken_201, s_M_nextToken_204, s_M_nextToken_205, s_M_nextToken_206, s_M_nextToken_209, s_M_nextToken_210, s_M_nextToken_213, s_M_nextToken_214, s_M_nextToken_217, s_M_nextToken_220, s_M_nextToken_223, s_M_nextToken_224, s_M_nextToken_225, s_M_nextToken_227, s_M_nextToken_230, s_M_nextToken_231, s_M_nextToken_234, s_M_nextToken_235, s_M_nextToken_238, s_M_nextToken_239, s_M_nextToken_240, s_M_nextToken_243, s_M_nextToken_244, s_M_nextToken_245, s_M_nextToken_248, ↓reduceIte, Nat.reduceEqDiff, Nat.reduceLT, am_top, ax_f_some, ax_k_some, ax_k_none, s8_0, s8_1, s8_2, s8_3, s8_4, c2p_n, c2p_i, c2p_r, c2p_z, okvp_i, okvp_l, okvp_r, okvp_n, okvp_z, okvp_z0, okvp_z1, bi_narp, am_nar0p, am_nar1p, bi_0, bi_1, true_and, and_true, i_40_0 hs, i_40_1 hs, i_40_2 hs, i_40_3 hs, r_40_4 hs, r_40_5 hs, r_40_6 hs, i_40_7 hs, r_40_8 hs, r_40_9 hs, r_40_10 hs, r_40_11 hs, r_40_12 hs, i_40_13 hs, r_40_14 hs, r_40_15 hs, r_40_16 hs, r_40_17 hs, i_40_18 hs, i_40_19 hs, r_40_20 hs, r_40_21 hs, r_40_22 hs, i_40_23 hs, r_40_24 hs, r_40_25 hs, r_40_26 hs, r_40_27 hs, r_40_28 hs, i_40_29 hs, r_40_30 hs, r_40_31 hs, r_40_32 hs, r_40_33 hs, r_40_34 hs, r_40_35 hs, r_40_36 hs, r_40_37 hs, i_40_38 hs, i_40_39 hs, i_40_40 hs, i_40_41 hs, i_40_42 hs, i_40_43 hs, i_40_44 hs, i_40_45 hs, r_40_46 hs, r_40_47 hs, r_40_48 hs, r_40_49 hs, r_40_50 hs, r_40_51 hs, r_40_52 hs, r_40_53 hs, r_40_54 hs, r_40_55 hs, r_40_56 hs, r_40_57 hs, r_40_58 hs, i_40_59 hs, i_40_60 hs, r_40_61 hs, o_40 hs, tok_g40 h, M_see hs g1 hle (show i < 1000 by omega), tok_ga, nI_1, tok_at]
    have e : (if i < t then ga σ 60 i else -1) = mSee σ t i := rfl
    rw [e]
    simp only [skipR] at hA
    by_cases c1 : mSee σ t i = 32
    · rw [if_pos c1] at hA ⊢
      exact ih (i + 1) (by omega) hA
    · rw [if_neg c1] at hA ⊢
      exact hA
end TK
