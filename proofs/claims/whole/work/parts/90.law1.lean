/-! THE LAW, 1: each case of its switch; by program -/
theorem nI_k2 (a : Nat) : nI a + 2 = nI (a + 2) := nI_add a 2
theorem nI_k3 (a : Nat) : nI a + 3 = nI (a + 3) := nI_add a 3
theorem nI_k4 (a : Nat) : nI a + 4 = nI (a + 4) := nI_add a 4
theorem nI_k5 (a : Nat) : nI a + 5 = nI (a + 5) := nI_add a 5
theorem nI_k6 (a : Nat) : nI a + 6 = nI (a + 6) := nI_add a 6
theorem nI_k7 (a : Nat) : nI a + 7 = nI (a + 7) := nI_add a 7
theorem lgc_self (x : Int64) : (lg_cmp x x = 0) = True := by
  refine eq_true ?_
  unfold lg_cmp
  simp
theorem scr_j {σ : am_H} {L : Nat} {xs : Nat → Int32} (H : HI σ L xs) : am_j σ 1000000 = some (0, L, xs) := by
  have h := H 1000000 (Nat.le_refl _)
  unfold am_j
  rw [h]
  rfl
section LW
variable {L i : Nat} {xs : Nat → Int32} {σ : am_H} {Q : Option Value → am_H → Prop}
theorem l_minute (I : INV L xs σ) (hi : i + 7 ≤ L) (hL : L ≤ 3584) (hQ : ∀ τ, INV L xs τ → Gr σ τ → ax k_L_law 1390 [some (.ref 1000000), some (.ref 0), some (.ref 40), some (.int (nI i))] [] τ Q) : ax k_L_law 164 [some (.ref 1000000), some (.ref 0), some (.ref 40), some (.int (nI i))] [] σ Q := by
  have x1 := ix_nI (show i + 1 < L by omega) (by omega)
  have d1 : (nI (i + 1)).toNatClampNeg = i + 1 := nI_clamp (by omega)
  have x2 := ix_nI (show i + 2 < L by omega) (by omega)
  have d2 : (nI (i + 2)).toNatClampNeg = i + 2 := nI_clamp (by omega)
  have x3 := ix_nI (show i + 3 < L by omega) (by omega)
  have d3 : (nI (i + 3)).toNatClampNeg = i + 3 := nI_clamp (by omega)
  have x4 := ix_nI (show i + 4 < L by omega) (by omega)
  have d4 : (nI (i + 4)).toNatClampNeg = i + 4 := nI_clamp (by omega)
  have x5 := ix_nI (show i + 5 < L by omega) (by omega)
  have d5 : (nI (i + 5)).toNatClampNeg = i + 5 := nI_clamp (by omega)
  have x6 := ix_nI (show i + 6 < L by omega) (by omega)
  have d6 : (nI (i + 6)).toNatClampNeg = i + 6 := nI_clamp (by omega)
  have hS := I.1.1
  have hj := scr_j I.1.2.2
  simp only [s_L_law_164, s_L_law_164n, s_L_law_165, s_L_law_166, s_L_law_167, s_L_law_168, s_L_law_169, s_L_law_170, s_L_law_173, s_L_law_173n, s_L_law_174, s_L_law_175, s_L_law_176, s_L_law_177, s_L_law_178, s_L_law_179, s_L_law_182, s_L_law_185, s_L_law_186, ↓reduceIte, Nat.reduceEqDiff, Nat.reduceLT, am_top, ax_f_some, ax_k_some, ax_k_none, s8_0, s8_1, s8_2, s8_3, s8_4, c2p_n, c2p_i, c2p_r, c2p_z, okvp_i, okvp_l, okvp_r, okvp_n, okvp_z, okvp_z0, okvp_z1, bi_narp, am_nar0p, am_nar1p, bi_0, bi_1, true_and, and_true, hj, nI_k2, nI_k3, nI_k4, nI_k5, nI_k6, nI_1, x1, d1, x2, d2, x3, d3, x4, d4, x5, d5, x6, d6, o_0 hS]
  refine c_minute I (xs (i + 1)) _ (fun v => ax_k k_L_law 182 [some (.ref 1000000), some (.ref 0), some (.ref 40), some (.int (nI i))] [.int v] Q) (fun v σ1 g1 g2 => ?_) (fun v τ hI hG => ?_)
  · have hj := scr_j g2
    simp only [s_L_law_164, s_L_law_164n, s_L_law_165, s_L_law_166, s_L_law_167, s_L_law_168, s_L_law_169, s_L_law_170, s_L_law_173, s_L_law_173n, s_L_law_174, s_L_law_175, s_L_law_176, s_L_law_177, s_L_law_178, s_L_law_179, s_L_law_182, s_L_law_185, s_L_law_186, ↓reduceIte, Nat.reduceEqDiff, Nat.reduceLT, am_top, ax_f_some, ax_k_some, ax_k_none, s8_0, s8_1, s8_2, s8_3, s8_4, c2p_n, c2p_i, c2p_r, c2p_z, okvp_i, okvp_l, okvp_r, okvp_n, okvp_z, okvp_z0, okvp_z1, bi_narp, am_nar0p, am_nar1p, bi_0, bi_1, true_and, and_true, hj, nI_k2, nI_k3, nI_k4, nI_k5, nI_k6, nI_1, x1, d1, x2, d2, x3, d3, x4, d4, x5, d5, x6, d6, o_40 g1]
  · have hq := hQ τ hI hG
    simp only [s_L_law_164, s_L_law_164n, s_L_law_165, s_L_law_166, s_L_law_167, s_L_law_168, s_L_law_169, s_L_law_170, s_L_law_173, s_L_law_173n, s_L_law_174, s_L_law_175, s_L_law_176, s_L_law_177, s_L_law_178, s_L_law_179, s_L_law_182, s_L_law_185, s_L_law_186, ↓reduceIte, Nat.reduceEqDiff, Nat.reduceLT, am_top, ax_f_some, ax_k_some, ax_k_none, s8_0, s8_1, s8_2, s8_3, s8_4, c2p_n, c2p_i, c2p_r, c2p_z, okvp_i, okvp_l, okvp_r, okvp_n, okvp_z, okvp_z0, okvp_z1, bi_narp, am_nar0p, am_nar1p, bi_0, bi_1, true_and, and_true]
    exact hq
theorem l_word (I : INV L xs σ) (hi : i + 7 ≤ L) (hL : L ≤ 3584) (hQ : ∀ τ, INV L xs τ → Gr σ τ → ax k_L_law 1390 [some (.ref 1000000), some (.ref 0), some (.ref 40), some (.int (nI i))] [] τ Q) : ax k_L_law 187 [some (.ref 1000000), some (.ref 0), some (.ref 40), some (.int (nI i))] [] σ Q := by
  have x1 := ix_nI (show i + 1 < L by omega) (by omega)
  have d1 : (nI (i + 1)).toNatClampNeg = i + 1 := nI_clamp (by omega)
  have x2 := ix_nI (show i + 2 < L by omega) (by omega)
  have d2 : (nI (i + 2)).toNatClampNeg = i + 2 := nI_clamp (by omega)
  have x3 := ix_nI (show i + 3 < L by omega) (by omega)
  have d3 : (nI (i + 3)).toNatClampNeg = i + 3 := nI_clamp (by omega)
  have x4 := ix_nI (show i + 4 < L by omega) (by omega)
  have d4 : (nI (i + 4)).toNatClampNeg = i + 4 := nI_clamp (by omega)
  have x5 := ix_nI (show i + 5 < L by omega) (by omega)
  have d5 : (nI (i + 5)).toNatClampNeg = i + 5 := nI_clamp (by omega)
  have x6 := ix_nI (show i + 6 < L by omega) (by omega)
  have d6 : (nI (i + 6)).toNatClampNeg = i + 6 := nI_clamp (by omega)
  have hS := I.1.1
  have hj := scr_j I.1.2.2
  simp only [s_L_law_187, s_L_law_187n, s_L_law_188, s_L_law_189, s_L_law_190, s_L_law_191, s_L_law_192, s_L_law_193, s_L_law_196, s_L_law_196n, s_L_law_197, s_L_law_198, s_L_law_199, s_L_law_200, s_L_law_201, s_L_law_202, s_L_law_205, s_L_law_208, s_L_law_209, ↓reduceIte, Nat.reduceEqDiff, Nat.reduceLT, am_top, ax_f_some, ax_k_some, ax_k_none, s8_0, s8_1, s8_2, s8_3, s8_4, c2p_n, c2p_i, c2p_r, c2p_z, okvp_i, okvp_l, okvp_r, okvp_n, okvp_z, okvp_z0, okvp_z1, bi_narp, am_nar0p, am_nar1p, bi_0, bi_1, true_and, and_true, hj, nI_k2, nI_k3, nI_k4, nI_k5, nI_k6, nI_1, x1, d1, x2, d2, x3, d3, x4, d4, x5, d5, x6, d6, o_0 hS]
  refine c_word I (xs (i + 1)) _ (fun v => ax_k k_L_law 205 [some (.ref 1000000), some (.ref 0), some (.ref 40), some (.int (nI i))] [.int v] Q) (fun v σ1 g1 g2 => ?_) (fun v τ hI hG => ?_)
  · have hj := scr_j g2
    simp only [s_L_law_187, s_L_law_187n, s_L_law_188, s_L_law_189, s_L_law_190, s_L_law_191, s_L_law_192, s_L_law_193, s_L_law_196, s_L_law_196n, s_L_law_197, s_L_law_198, s_L_law_199, s_L_law_200, s_L_law_201, s_L_law_202, s_L_law_205, s_L_law_208, s_L_law_209, ↓reduceIte, Nat.reduceEqDiff, Nat.reduceLT, am_top, ax_f_some, ax_k_some, ax_k_none, s8_0, s8_1, s8_2, s8_3, s8_4, c2p_n, c2p_i, c2p_r, c2p_z, okvp_i, okvp_l, okvp_r, okvp_n, okvp_z, okvp_z0, okvp_z1, bi_narp, am_nar0p, am_nar1p, bi_0, bi_1, true_and, and_true, hj, nI_k2, nI_k3, nI_k4, nI_k5, nI_k6, nI_1, x1, d1, x2, d2, x3, d3, x4, d4, x5, d5, x6, d6, o_40 g1]
  · have hq := hQ τ hI hG
    simp only [s_L_law_187, s_L_law_187n, s_L_law_188, s_L_law_189, s_L_law_190, s_L_law_191, s_L_law_192, s_L_law_193, s_L_law_196, s_L_law_196n, s_L_law_197, s_L_law_198, s_L_law_199, s_L_law_200, s_L_law_201, s_L_law_202, s_L_law_205, s_L_law_208, s_L_law_209, ↓reduceIte, Nat.reduceEqDiff, Nat.reduceLT, am_top, ax_f_some, ax_k_some, ax_k_none, s8_0, s8_1, s8_2, s8_3, s8_4, c2p_n, c2p_i, c2p_r, c2p_z, okvp_i, okvp_l, okvp_r, okvp_n, okvp_z, okvp_z0, okvp_z1, bi_narp, am_nar0p, am_nar1p, bi_0, bi_1, true_and, and_true]
    exact hq
theorem l_put (I : INV L xs σ) (hi : i + 7 ≤ L) (hL : L ≤ 3584) (hQ : ∀ τ, INV L xs τ → Gr σ τ → ax k_L_law 1390 [some (.ref 1000000), some (.ref 0), some (.ref 40), some (.int (nI i))] [] τ Q) : ax k_L_law 210 [some (.ref 1000000), some (.ref 0), some (.ref 40), some (.int (nI i))] [] σ Q := by
  have x1 := ix_nI (show i + 1 < L by omega) (by omega)
  have d1 : (nI (i + 1)).toNatClampNeg = i + 1 := nI_clamp (by omega)
  have x2 := ix_nI (show i + 2 < L by omega) (by omega)
  have d2 : (nI (i + 2)).toNatClampNeg = i + 2 := nI_clamp (by omega)
  have x3 := ix_nI (show i + 3 < L by omega) (by omega)
  have d3 : (nI (i + 3)).toNatClampNeg = i + 3 := nI_clamp (by omega)
  have x4 := ix_nI (show i + 4 < L by omega) (by omega)
  have d4 : (nI (i + 4)).toNatClampNeg = i + 4 := nI_clamp (by omega)
  have x5 := ix_nI (show i + 5 < L by omega) (by omega)
  have d5 : (nI (i + 5)).toNatClampNeg = i + 5 := nI_clamp (by omega)
  have x6 := ix_nI (show i + 6 < L by omega) (by omega)
  have d6 : (nI (i + 6)).toNatClampNeg = i + 6 := nI_clamp (by omega)
  have hS := I.1.1
  have hj := scr_j I.1.2.2
  simp only [s_L_law_210, s_L_law_210n, s_L_law_211, s_L_law_212, s_L_law_213, s_L_law_214, s_L_law_215, s_L_law_216, s_L_law_217, s_L_law_218, s_L_law_219, s_L_law_220, s_L_law_221, s_L_law_224, s_L_law_224n, s_L_law_225, s_L_law_226, s_L_law_227, s_L_law_228, s_L_law_229, s_L_law_230, s_L_law_231, s_L_law_232, s_L_law_233, s_L_law_234, s_L_law_235, s_L_law_238, s_L_law_241, s_L_law_242, ↓reduceIte, Nat.reduceEqDiff, Nat.reduceLT, am_top, ax_f_some, ax_k_some, ax_k_none, s8_0, s8_1, s8_2, s8_3, s8_4, c2p_n, c2p_i, c2p_r, c2p_z, okvp_i, okvp_l, okvp_r, okvp_n, okvp_z, okvp_z0, okvp_z1, bi_narp, am_nar0p, am_nar1p, bi_0, bi_1, true_and, and_true, hj, nI_k2, nI_k3, nI_k4, nI_k5, nI_k6, nI_1, x1, d1, x2, d2, x3, d3, x4, d4, x5, d5, x6, d6, o_0 hS]
  refine c_put I (xs (i + 1)) (xs (i + 2)) _ (fun v => ax_k k_L_law 238 [some (.ref 1000000), some (.ref 0), some (.ref 40), some (.int (nI i))] [.int v] Q) (fun v σ1 g1 g2 => ?_) (fun v τ hI hG => ?_)
  · have hj := scr_j g2
    simp only [s_L_law_210, s_L_law_210n, s_L_law_211, s_L_law_212, s_L_law_213, s_L_law_214, s_L_law_215, s_L_law_216, s_L_law_217, s_L_law_218, s_L_law_219, s_L_law_220, s_L_law_221, s_L_law_224, s_L_law_224n, s_L_law_225, s_L_law_226, s_L_law_227, s_L_law_228, s_L_law_229, s_L_law_230, s_L_law_231, s_L_law_232, s_L_law_233, s_L_law_234, s_L_law_235, s_L_law_238, s_L_law_241, s_L_law_242, ↓reduceIte, Nat.reduceEqDiff, Nat.reduceLT, am_top, ax_f_some, ax_k_some, ax_k_none, s8_0, s8_1, s8_2, s8_3, s8_4, c2p_n, c2p_i, c2p_r, c2p_z, okvp_i, okvp_l, okvp_r, okvp_n, okvp_z, okvp_z0, okvp_z1, bi_narp, am_nar0p, am_nar1p, bi_0, bi_1, true_and, and_true, hj, nI_k2, nI_k3, nI_k4, nI_k5, nI_k6, nI_1, x1, d1, x2, d2, x3, d3, x4, d4, x5, d5, x6, d6, o_40 g1]
  · have hq := hQ τ hI hG
    simp only [s_L_law_210, s_L_law_210n, s_L_law_211, s_L_law_212, s_L_law_213, s_L_law_214, s_L_law_215, s_L_law_216, s_L_law_217, s_L_law_218, s_L_law_219, s_L_law_220, s_L_law_221, s_L_law_224, s_L_law_224n, s_L_law_225, s_L_law_226, s_L_law_227, s_L_law_228, s_L_law_229, s_L_law_230, s_L_law_231, s_L_law_232, s_L_law_233, s_L_law_234, s_L_law_235, s_L_law_238, s_L_law_241, s_L_law_242, ↓reduceIte, Nat.reduceEqDiff, Nat.reduceLT, am_top, ax_f_some, ax_k_some, ax_k_none, s8_0, s8_1, s8_2, s8_3, s8_4, c2p_n, c2p_i, c2p_r, c2p_z, okvp_i, okvp_l, okvp_r, okvp_n, okvp_z, okvp_z0, okvp_z1, bi_narp, am_nar0p, am_nar1p, bi_0, bi_1, true_and, and_true]
    exact hq
theorem l_within (I : INV L xs σ) (hi : i + 7 ≤ L) (hL : L ≤ 3584) (hQ : ∀ τ, INV L xs τ → Gr σ τ → ax k_L_law 1390 [some (.ref 1000000), some (.ref 0), some (.ref 40), some (.int (nI i))] [] τ Q) : ax k_L_law 243 [some (.ref 1000000), some (.ref 0), some (.ref 40), some (.int (nI i))] [] σ Q := by
  have x1 := ix_nI (show i + 1 < L by omega) (by omega)
  have d1 : (nI (i + 1)).toNatClampNeg = i + 1 := nI_clamp (by omega)
  have x2 := ix_nI (show i + 2 < L by omega) (by omega)
  have d2 : (nI (i + 2)).toNatClampNeg = i + 2 := nI_clamp (by omega)
  have x3 := ix_nI (show i + 3 < L by omega) (by omega)
  have d3 : (nI (i + 3)).toNatClampNeg = i + 3 := nI_clamp (by omega)
  have x4 := ix_nI (show i + 4 < L by omega) (by omega)
  have d4 : (nI (i + 4)).toNatClampNeg = i + 4 := nI_clamp (by omega)
  have x5 := ix_nI (show i + 5 < L by omega) (by omega)
  have d5 : (nI (i + 5)).toNatClampNeg = i + 5 := nI_clamp (by omega)
  have x6 := ix_nI (show i + 6 < L by omega) (by omega)
  have d6 : (nI (i + 6)).toNatClampNeg = i + 6 := nI_clamp (by omega)
  have hS := I.1.1
  have hj := scr_j I.1.2.2
  simp only [s_L_law_243, s_L_law_243n, s_L_law_244, s_L_law_245, s_L_law_246, s_L_law_247, s_L_law_248, s_L_law_249, s_L_law_250, s_L_law_251, s_L_law_252, s_L_law_253, s_L_law_254, s_L_law_257, s_L_law_257n, s_L_law_258, s_L_law_259, s_L_law_260, s_L_law_261, s_L_law_262, s_L_law_263, s_L_law_264, s_L_law_265, s_L_law_266, s_L_law_267, s_L_law_268, s_L_law_271, s_L_law_274, s_L_law_275, ↓reduceIte, Nat.reduceEqDiff, Nat.reduceLT, am_top, ax_f_some, ax_k_some, ax_k_none, s8_0, s8_1, s8_2, s8_3, s8_4, c2p_n, c2p_i, c2p_r, c2p_z, okvp_i, okvp_l, okvp_r, okvp_n, okvp_z, okvp_z0, okvp_z1, bi_narp, am_nar0p, am_nar1p, bi_0, bi_1, true_and, and_true, hj, nI_k2, nI_k3, nI_k4, nI_k5, nI_k6, nI_1, x1, d1, x2, d2, x3, d3, x4, d4, x5, d5, x6, d6, o_0 hS]
  refine c_within I (xs (i + 1)) (xs (i + 2)) _ (fun v => ax_k k_L_law 271 [some (.ref 1000000), some (.ref 0), some (.ref 40), some (.int (nI i))] [.int v] Q) (fun v σ1 g1 g2 => ?_) (fun v τ hI hG => ?_)
  · have hj := scr_j g2
    simp only [s_L_law_243, s_L_law_243n, s_L_law_244, s_L_law_245, s_L_law_246, s_L_law_247, s_L_law_248, s_L_law_249, s_L_law_250, s_L_law_251, s_L_law_252, s_L_law_253, s_L_law_254, s_L_law_257, s_L_law_257n, s_L_law_258, s_L_law_259, s_L_law_260, s_L_law_261, s_L_law_262, s_L_law_263, s_L_law_264, s_L_law_265, s_L_law_266, s_L_law_267, s_L_law_268, s_L_law_271, s_L_law_274, s_L_law_275, ↓reduceIte, Nat.reduceEqDiff, Nat.reduceLT, am_top, ax_f_some, ax_k_some, ax_k_none, s8_0, s8_1, s8_2, s8_3, s8_4, c2p_n, c2p_i, c2p_r, c2p_z, okvp_i, okvp_l, okvp_r, okvp_n, okvp_z, okvp_z0, okvp_z1, bi_narp, am_nar0p, am_nar1p, bi_0, bi_1, true_and, and_true, hj, nI_k2, nI_k3, nI_k4, nI_k5, nI_k6, nI_1, x1, d1, x2, d2, x3, d3, x4, d4, x5, d5, x6, d6, o_40 g1]
  · have hq := hQ τ hI hG
    simp only [s_L_law_243, s_L_law_243n, s_L_law_244, s_L_law_245, s_L_law_246, s_L_law_247, s_L_law_248, s_L_law_249, s_L_law_250, s_L_law_251, s_L_law_252, s_L_law_253, s_L_law_254, s_L_law_257, s_L_law_257n, s_L_law_258, s_L_law_259, s_L_law_260, s_L_law_261, s_L_law_262, s_L_law_263, s_L_law_264, s_L_law_265, s_L_law_266, s_L_law_267, s_L_law_268, s_L_law_271, s_L_law_274, s_L_law_275, ↓reduceIte, Nat.reduceEqDiff, Nat.reduceLT, am_top, ax_f_some, ax_k_some, ax_k_none, s8_0, s8_1, s8_2, s8_3, s8_4, c2p_n, c2p_i, c2p_r, c2p_z, okvp_i, okvp_l, okvp_r, okvp_n, okvp_z, okvp_z0, okvp_z1, bi_narp, am_nar0p, am_nar1p, bi_0, bi_1, true_and, and_true]
    exact hq
theorem l_picture (I : INV L xs σ) (hi : i + 7 ≤ L) (hL : L ≤ 3584) (hQ : ∀ τ, INV L xs τ → Gr σ τ → ax k_L_law 1390 [some (.ref 1000000), some (.ref 0), some (.ref 40), some (.int (nI i))] [] τ Q) : ax k_L_law 276 [some (.ref 1000000), some (.ref 0), some (.ref 40), some (.int (nI i))] [] σ Q := by
  have x1 := ix_nI (show i + 1 < L by omega) (by omega)
  have d1 : (nI (i + 1)).toNatClampNeg = i + 1 := nI_clamp (by omega)
  have x2 := ix_nI (show i + 2 < L by omega) (by omega)
  have d2 : (nI (i + 2)).toNatClampNeg = i + 2 := nI_clamp (by omega)
  have x3 := ix_nI (show i + 3 < L by omega) (by omega)
  have d3 : (nI (i + 3)).toNatClampNeg = i + 3 := nI_clamp (by omega)
  have x4 := ix_nI (show i + 4 < L by omega) (by omega)
  have d4 : (nI (i + 4)).toNatClampNeg = i + 4 := nI_clamp (by omega)
  have x5 := ix_nI (show i + 5 < L by omega) (by omega)
  have d5 : (nI (i + 5)).toNatClampNeg = i + 5 := nI_clamp (by omega)
  have x6 := ix_nI (show i + 6 < L by omega) (by omega)
  have d6 : (nI (i + 6)).toNatClampNeg = i + 6 := nI_clamp (by omega)
  have hS := I.1.1
  have hj := scr_j I.1.2.2
  simp only [s_L_law_276, s_L_law_276n, s_L_law_277, s_L_law_278, s_L_law_279, s_L_law_280, s_L_law_281, s_L_law_282, s_L_law_283, s_L_law_284, s_L_law_285, s_L_law_286, s_L_law_287, s_L_law_288, s_L_law_289, s_L_law_290, s_L_law_291, s_L_law_292, s_L_law_293, s_L_law_295, s_L_law_296, s_L_law_297, s_L_law_298, s_L_law_299, s_L_law_300, s_L_law_301, s_L_law_302, s_L_law_305, s_L_law_306, s_L_law_307, s_L_law_308, s_L_law_309, s_L_law_310, s_L_law_311, s_L_law_312, s_L_law_315, s_L_law_315n, s_L_law_316, s_L_law_317, s_L_law_318, s_L_law_319, s_L_law_320, s_L_law_321, s_L_law_322, s_L_law_323, s_L_law_324, s_L_law_325, s_L_law_326, s_L_law_327, s_L_law_328, s_L_law_329, s_L_law_330, s_L_law_331, s_L_law_332, s_L_law_334, s_L_law_335, s_L_law_336, s_L_law_337, s_L_law_338, s_L_law_339, s_L_law_340, s_L_law_341, s_L_law_344, s_L_law_345, s_L_law_346, s_L_law_347, s_L_law_348, s_L_law_349, s_L_law_350, s_L_law_351, s_L_law_354, s_L_law_357, s_L_law_358, ↓reduceIte, Nat.reduceEqDiff, Nat.reduceLT, am_top, ax_f_some, ax_k_some, ax_k_none, s8_0, s8_1, s8_2, s8_3, s8_4, c2p_n, c2p_i, c2p_r, c2p_z, okvp_i, okvp_l, okvp_r, okvp_n, okvp_z, okvp_z0, okvp_z1, bi_narp, am_nar0p, am_nar1p, bi_0, bi_1, true_and, and_true, hj, nI_k2, nI_k3, nI_k4, nI_k5, nI_k6, nI_1, x1, d1, x2, d2, x3, d3, x4, d4, x5, d5, x6, d6, o_0 hS]
  refine c_picture I (xs (i + 1)) (xs (i + 2)) _ (xs (i + 5)) _ (fun v => ax_k k_L_law 354 [some (.ref 1000000), some (.ref 0), some (.ref 40), some (.int (nI i))] [.int v] Q) (fun v σ1 g1 g2 => ?_) (fun v τ hI hG => ?_)
  · have hj := scr_j g2
    simp only [s_L_law_276, s_L_law_276n, s_L_law_277, s_L_law_278, s_L_law_279, s_L_law_280, s_L_law_281, s_L_law_282, s_L_law_283, s_L_law_284, s_L_law_285, s_L_law_286, s_L_law_287, s_L_law_288, s_L_law_289, s_L_law_290, s_L_law_291, s_L_law_292, s_L_law_293, s_L_law_295, s_L_law_296, s_L_law_297, s_L_law_298, s_L_law_299, s_L_law_300, s_L_law_301, s_L_law_302, s_L_law_305, s_L_law_306, s_L_law_307, s_L_law_308, s_L_law_309, s_L_law_310, s_L_law_311, s_L_law_312, s_L_law_315, s_L_law_315n, s_L_law_316, s_L_law_317, s_L_law_318, s_L_law_319, s_L_law_320, s_L_law_321, s_L_law_322, s_L_law_323, s_L_law_324, s_L_law_325, s_L_law_326, s_L_law_327, s_L_law_328, s_L_law_329, s_L_law_330, s_L_law_331, s_L_law_332, s_L_law_334, s_L_law_335, s_L_law_336, s_L_law_337, s_L_law_338, s_L_law_339, s_L_law_340, s_L_law_341, s_L_law_344, s_L_law_345, s_L_law_346, s_L_law_347, s_L_law_348, s_L_law_349, s_L_law_350, s_L_law_351, s_L_law_354, s_L_law_357, s_L_law_358, ↓reduceIte, Nat.reduceEqDiff, Nat.reduceLT, am_top, ax_f_some, ax_k_some, ax_k_none, s8_0, s8_1, s8_2, s8_3, s8_4, c2p_n, c2p_i, c2p_r, c2p_z, okvp_i, okvp_l, okvp_r, okvp_n, okvp_z, okvp_z0, okvp_z1, bi_narp, am_nar0p, am_nar1p, bi_0, bi_1, true_and, and_true, hj, nI_k2, nI_k3, nI_k4, nI_k5, nI_k6, nI_1, x1, d1, x2, d2, x3, d3, x4, d4, x5, d5, x6, d6, o_40 g1]
  · have hq := hQ τ hI hG
    simp only [s_L_law_276, s_L_law_276n, s_L_law_277, s_L_law_278, s_L_law_279, s_L_law_280, s_L_law_281, s_L_law_282, s_L_law_283, s_L_law_284, s_L_law_285, s_L_law_286, s_L_law_287, s_L_law_288, s_L_law_289, s_L_law_290, s_L_law_291, s_L_law_292, s_L_law_293, s_L_law_295, s_L_law_296, s_L_law_297, s_L_law_298, s_L_law_299, s_L_law_300, s_L_law_301, s_L_law_302, s_L_law_305, s_L_law_306, s_L_law_307, s_L_law_308, s_L_law_309, s_L_law_310, s_L_law_311, s_L_law_312, s_L_law_315, s_L_law_315n, s_L_law_316, s_L_law_317, s_L_law_318, s_L_law_319, s_L_law_320, s_L_law_321, s_L_law_322, s_L_law_323, s_L_law_324, s_L_law_325, s_L_law_326, s_L_law_327, s_L_law_328, s_L_law_329, s_L_law_330, s_L_law_331, s_L_law_332, s_L_law_334, s_L_law_335, s_L_law_336, s_L_law_337, s_L_law_338, s_L_law_339, s_L_law_340, s_L_law_341, s_L_law_344, s_L_law_345, s_L_law_346, s_L_law_347, s_L_law_348, s_L_law_349, s_L_law_350, s_L_law_351, s_L_law_354, s_L_law_357, s_L_law_358, ↓reduceIte, Nat.reduceEqDiff, Nat.reduceLT, am_top, ax_f_some, ax_k_some, ax_k_none, s8_0, s8_1, s8_2, s8_3, s8_4, c2p_n, c2p_i, c2p_r, c2p_z, okvp_i, okvp_l, okvp_r, okvp_n, okvp_z, okvp_z0, okvp_z1, bi_narp, am_nar0p, am_nar1p, bi_0, bi_1, true_and, and_true]
    exact hq
theorem l_caption (I : INV L xs σ) (hi : i + 7 ≤ L) (hL : L ≤ 3584) (hQ : ∀ τ, INV L xs τ → Gr σ τ → ax k_L_law 1390 [some (.ref 1000000), some (.ref 0), some (.ref 40), some (.int (nI i))] [] τ Q) : ax k_L_law 359 [some (.ref 1000000), some (.ref 0), some (.ref 40), some (.int (nI i))] [] σ Q := by
  have x1 := ix_nI (show i + 1 < L by omega) (by omega)
  have d1 : (nI (i + 1)).toNatClampNeg = i + 1 := nI_clamp (by omega)
  have x2 := ix_nI (show i + 2 < L by omega) (by omega)
  have d2 : (nI (i + 2)).toNatClampNeg = i + 2 := nI_clamp (by omega)
  have x3 := ix_nI (show i + 3 < L by omega) (by omega)
  have d3 : (nI (i + 3)).toNatClampNeg = i + 3 := nI_clamp (by omega)
  have x4 := ix_nI (show i + 4 < L by omega) (by omega)
  have d4 : (nI (i + 4)).toNatClampNeg = i + 4 := nI_clamp (by omega)
  have x5 := ix_nI (show i + 5 < L by omega) (by omega)
  have d5 : (nI (i + 5)).toNatClampNeg = i + 5 := nI_clamp (by omega)
  have x6 := ix_nI (show i + 6 < L by omega) (by omega)
  have d6 : (nI (i + 6)).toNatClampNeg = i + 6 := nI_clamp (by omega)
  have hS := I.1.1
  have hj := scr_j I.1.2.2
  by_cases hb : xs (i + 3) = 0
  · simp only [s_L_law_359, s_L_law_359n, s_L_law_360, s_L_law_361, s_L_law_362, s_L_law_363, s_L_law_364, s_L_law_365, s_L_law_366, s_L_law_367, s_L_law_368, s_L_law_369, s_L_law_370, s_L_law_371, s_L_law_372, s_L_law_373, s_L_law_374, s_L_law_375, s_L_law_378, s_L_law_379, s_L_law_382, s_L_law_383, s_L_law_386, s_L_law_386n, s_L_law_387, s_L_law_388, s_L_law_389, s_L_law_390, s_L_law_391, s_L_law_392, s_L_law_393, s_L_law_394, s_L_law_395, s_L_law_396, s_L_law_397, s_L_law_398, s_L_law_399, s_L_law_400, s_L_law_401, s_L_law_402, s_L_law_405, s_L_law_406, s_L_law_409, s_L_law_410, s_L_law_413, s_L_law_416, s_L_law_417, ↓reduceIte, Nat.reduceEqDiff, Nat.reduceLT, am_top, ax_f_some, ax_k_some, ax_k_none, s8_0, s8_1, s8_2, s8_3, s8_4, c2p_n, c2p_i, c2p_r, c2p_z, okvp_i, okvp_l, okvp_r, okvp_n, okvp_z, okvp_z0, okvp_z1, bi_narp, am_nar0p, am_nar1p, bi_0, bi_1, true_and, and_true, hj, nI_k2, nI_k3, nI_k4, nI_k5, nI_k6, nI_1, x1, d1, x2, d2, x3, d3, x4, d4, x5, d5, x6, d6, o_0 hS, hb, not_false_eq_true]
    refine c_caption I (xs (i + 1)) (xs (i + 2)) false _ (fun v => ax_k k_L_law 413 [some (.ref 1000000), some (.ref 0), some (.ref 40), some (.int (nI i))] [.int v] Q) (fun v σ1 g1 g2 => ?_) (fun v τ hI hG => ?_)
    · have hj := scr_j g2
      simp only [s_L_law_359, s_L_law_359n, s_L_law_360, s_L_law_361, s_L_law_362, s_L_law_363, s_L_law_364, s_L_law_365, s_L_law_366, s_L_law_367, s_L_law_368, s_L_law_369, s_L_law_370, s_L_law_371, s_L_law_372, s_L_law_373, s_L_law_374, s_L_law_375, s_L_law_378, s_L_law_379, s_L_law_382, s_L_law_383, s_L_law_386, s_L_law_386n, s_L_law_387, s_L_law_388, s_L_law_389, s_L_law_390, s_L_law_391, s_L_law_392, s_L_law_393, s_L_law_394, s_L_law_395, s_L_law_396, s_L_law_397, s_L_law_398, s_L_law_399, s_L_law_400, s_L_law_401, s_L_law_402, s_L_law_405, s_L_law_406, s_L_law_409, s_L_law_410, s_L_law_413, s_L_law_416, s_L_law_417, ↓reduceIte, Nat.reduceEqDiff, Nat.reduceLT, am_top, ax_f_some, ax_k_some, ax_k_none, s8_0, s8_1, s8_2, s8_3, s8_4, c2p_n, c2p_i, c2p_r, c2p_z, okvp_i, okvp_l, okvp_r, okvp_n, okvp_z, okvp_z0, okvp_z1, bi_narp, am_nar0p, am_nar1p, bi_0, bi_1, true_and, and_true, hj, nI_k2, nI_k3, nI_k4, nI_k5, nI_k6, nI_1, x1, d1, x2, d2, x3, d3, x4, d4, x5, d5, x6, d6, o_40 g1, hb, not_false_eq_true]
      try rfl
    · have hq := hQ τ hI hG
      simp only [s_L_law_359, s_L_law_359n, s_L_law_360, s_L_law_361, s_L_law_362, s_L_law_363, s_L_law_364, s_L_law_365, s_L_law_366, s_L_law_367, s_L_law_368, s_L_law_369, s_L_law_370, s_L_law_371, s_L_law_372, s_L_law_373, s_L_law_374, s_L_law_375, s_L_law_378, s_L_law_379, s_L_law_382, s_L_law_383, s_L_law_386, s_L_law_386n, s_L_law_387, s_L_law_388, s_L_law_389, s_L_law_390, s_L_law_391, s_L_law_392, s_L_law_393, s_L_law_394, s_L_law_395, s_L_law_396, s_L_law_397, s_L_law_398, s_L_law_399, s_L_law_400, s_L_law_401, s_L_law_402, s_L_law_405, s_L_law_406, s_L_law_409, s_L_law_410, s_L_law_413, s_L_law_416, s_L_law_417, ↓reduceIte, Nat.reduceEqDiff, Nat.reduceLT, am_top, ax_f_some, ax_k_some, ax_k_none, s8_0, s8_1, s8_2, s8_3, s8_4, c2p_n, c2p_i, c2p_r, c2p_z, okvp_i, okvp_l, okvp_r, okvp_n, okvp_z, okvp_z0, okvp_z1, bi_narp, am_nar0p, am_nar1p, bi_0, bi_1, true_and, and_true]
      exact hq
  · simp only [s_L_law_359, s_L_law_359n, s_L_law_360, s_L_law_361, s_L_law_362, s_L_law_363, s_L_law_364, s_L_law_365, s_L_law_366, s_L_law_367, s_L_law_368, s_L_law_369, s_L_law_370, s_L_law_371, s_L_law_372, s_L_law_373, s_L_law_374, s_L_law_375, s_L_law_378, s_L_law_379, s_L_law_382, s_L_law_383, s_L_law_386, s_L_law_386n, s_L_law_387, s_L_law_388, s_L_law_389, s_L_law_390, s_L_law_391, s_L_law_392, s_L_law_393, s_L_law_394, s_L_law_395, s_L_law_396, s_L_law_397, s_L_law_398, s_L_law_399, s_L_law_400, s_L_law_401, s_L_law_402, s_L_law_405, s_L_law_406, s_L_law_409, s_L_law_410, s_L_law_413, s_L_law_416, s_L_law_417, ↓reduceIte, Nat.reduceEqDiff, Nat.reduceLT, am_top, ax_f_some, ax_k_some, ax_k_none, s8_0, s8_1, s8_2, s8_3, s8_4, c2p_n, c2p_i, c2p_r, c2p_z, okvp_i, okvp_l, okvp_r, okvp_n, okvp_z, okvp_z0, okvp_z1, bi_narp, am_nar0p, am_nar1p, bi_0, bi_1, true_and, and_true, hj, nI_k2, nI_k3, nI_k4, nI_k5, nI_k6, nI_1, x1, d1, x2, d2, x3, d3, x4, d4, x5, d5, x6, d6, o_0 hS, hb, not_false_eq_true]
    refine c_caption I (xs (i + 1)) (xs (i + 2)) true _ (fun v => ax_k k_L_law 413 [some (.ref 1000000), some (.ref 0), some (.ref 40), some (.int (nI i))] [.int v] Q) (fun v σ1 g1 g2 => ?_) (fun v τ hI hG => ?_)
    · have hj := scr_j g2
      simp only [s_L_law_359, s_L_law_359n, s_L_law_360, s_L_law_361, s_L_law_362, s_L_law_363, s_L_law_364, s_L_law_365, s_L_law_366, s_L_law_367, s_L_law_368, s_L_law_369, s_L_law_370, s_L_law_371, s_L_law_372, s_L_law_373, s_L_law_374, s_L_law_375, s_L_law_378, s_L_law_379, s_L_law_382, s_L_law_383, s_L_law_386, s_L_law_386n, s_L_law_387, s_L_law_388, s_L_law_389, s_L_law_390, s_L_law_391, s_L_law_392, s_L_law_393, s_L_law_394, s_L_law_395, s_L_law_396, s_L_law_397, s_L_law_398, s_L_law_399, s_L_law_400, s_L_law_401, s_L_law_402, s_L_law_405, s_L_law_406, s_L_law_409, s_L_law_410, s_L_law_413, s_L_law_416, s_L_law_417, ↓reduceIte, Nat.reduceEqDiff, Nat.reduceLT, am_top, ax_f_some, ax_k_some, ax_k_none, s8_0, s8_1, s8_2, s8_3, s8_4, c2p_n, c2p_i, c2p_r, c2p_z, okvp_i, okvp_l, okvp_r, okvp_n, okvp_z, okvp_z0, okvp_z1, bi_narp, am_nar0p, am_nar1p, bi_0, bi_1, true_and, and_true, hj, nI_k2, nI_k3, nI_k4, nI_k5, nI_k6, nI_1, x1, d1, x2, d2, x3, d3, x4, d4, x5, d5, x6, d6, o_40 g1, hb, not_false_eq_true]
      try rfl
    · have hq := hQ τ hI hG
      simp only [s_L_law_359, s_L_law_359n, s_L_law_360, s_L_law_361, s_L_law_362, s_L_law_363, s_L_law_364, s_L_law_365, s_L_law_366, s_L_law_367, s_L_law_368, s_L_law_369, s_L_law_370, s_L_law_371, s_L_law_372, s_L_law_373, s_L_law_374, s_L_law_375, s_L_law_378, s_L_law_379, s_L_law_382, s_L_law_383, s_L_law_386, s_L_law_386n, s_L_law_387, s_L_law_388, s_L_law_389, s_L_law_390, s_L_law_391, s_L_law_392, s_L_law_393, s_L_law_394, s_L_law_395, s_L_law_396, s_L_law_397, s_L_law_398, s_L_law_399, s_L_law_400, s_L_law_401, s_L_law_402, s_L_law_405, s_L_law_406, s_L_law_409, s_L_law_410, s_L_law_413, s_L_law_416, s_L_law_417, ↓reduceIte, Nat.reduceEqDiff, Nat.reduceLT, am_top, ax_f_some, ax_k_some, ax_k_none, s8_0, s8_1, s8_2, s8_3, s8_4, c2p_n, c2p_i, c2p_r, c2p_z, okvp_i, okvp_l, okvp_r, okvp_n, okvp_z, okvp_z0, okvp_z1, bi_narp, am_nar0p, am_nar1p, bi_0, bi_1, true_and, and_true]
      exact hq
theorem l_has (I : INV L xs σ) (hi : i + 7 ≤ L) (hL : L ≤ 3584) (hQ : ∀ τ, INV L xs τ → Gr σ τ → ax k_L_law 1390 [some (.ref 1000000), some (.ref 0), some (.ref 40), some (.int (nI i))] [] τ Q) : ax k_L_law 418 [some (.ref 1000000), some (.ref 0), some (.ref 40), some (.int (nI i))] [] σ Q := by
  have x1 := ix_nI (show i + 1 < L by omega) (by omega)
  have d1 : (nI (i + 1)).toNatClampNeg = i + 1 := nI_clamp (by omega)
  have x2 := ix_nI (show i + 2 < L by omega) (by omega)
  have d2 : (nI (i + 2)).toNatClampNeg = i + 2 := nI_clamp (by omega)
  have x3 := ix_nI (show i + 3 < L by omega) (by omega)
  have d3 : (nI (i + 3)).toNatClampNeg = i + 3 := nI_clamp (by omega)
  have x4 := ix_nI (show i + 4 < L by omega) (by omega)
  have d4 : (nI (i + 4)).toNatClampNeg = i + 4 := nI_clamp (by omega)
  have x5 := ix_nI (show i + 5 < L by omega) (by omega)
  have d5 : (nI (i + 5)).toNatClampNeg = i + 5 := nI_clamp (by omega)
  have x6 := ix_nI (show i + 6 < L by omega) (by omega)
  have d6 : (nI (i + 6)).toNatClampNeg = i + 6 := nI_clamp (by omega)
  have hS := I.1.1
  have hj := scr_j I.1.2.2
  by_cases hb : xs (i + 4) = 0
  · simp only [s_L_law_418, s_L_law_418n, s_L_law_419, s_L_law_420, s_L_law_421, s_L_law_422, s_L_law_423, s_L_law_424, s_L_law_425, s_L_law_426, s_L_law_427, s_L_law_428, s_L_law_429, s_L_law_430, s_L_law_431, s_L_law_432, s_L_law_433, s_L_law_434, s_L_law_435, s_L_law_436, s_L_law_437, s_L_law_438, s_L_law_439, s_L_law_442, s_L_law_443, s_L_law_446, s_L_law_447, s_L_law_450, s_L_law_450n, s_L_law_451, s_L_law_452, s_L_law_453, s_L_law_454, s_L_law_455, s_L_law_456, s_L_law_457, s_L_law_458, s_L_law_459, s_L_law_460, s_L_law_461, s_L_law_462, s_L_law_463, s_L_law_464, s_L_law_465, s_L_law_466, s_L_law_467, s_L_law_468, s_L_law_469, s_L_law_470, s_L_law_471, s_L_law_474, s_L_law_475, s_L_law_478, s_L_law_479, s_L_law_482, s_L_law_485, s_L_law_486, ↓reduceIte, Nat.reduceEqDiff, Nat.reduceLT, am_top, ax_f_some, ax_k_some, ax_k_none, s8_0, s8_1, s8_2, s8_3, s8_4, c2p_n, c2p_i, c2p_r, c2p_z, okvp_i, okvp_l, okvp_r, okvp_n, okvp_z, okvp_z0, okvp_z1, bi_narp, am_nar0p, am_nar1p, bi_0, bi_1, true_and, and_true, hj, nI_k2, nI_k3, nI_k4, nI_k5, nI_k6, nI_1, x1, d1, x2, d2, x3, d3, x4, d4, x5, d5, x6, d6, o_0 hS, hb, not_false_eq_true]
    refine c_has I (xs (i + 1)) (xs (i + 2)) (xs (i + 3)) false _ (fun v => ax_k k_L_law 482 [some (.ref 1000000), some (.ref 0), some (.ref 40), some (.int (nI i))] [.int v] Q) (fun v σ1 g1 g2 => ?_) (fun v τ hI hG => ?_)
    · have hj := scr_j g2
      simp only [s_L_law_418, s_L_law_418n, s_L_law_419, s_L_law_420, s_L_law_421, s_L_law_422, s_L_law_423, s_L_law_424, s_L_law_425, s_L_law_426, s_L_law_427, s_L_law_428, s_L_law_429, s_L_law_430, s_L_law_431, s_L_law_432, s_L_law_433, s_L_law_434, s_L_law_435, s_L_law_436, s_L_law_437, s_L_law_438, s_L_law_439, s_L_law_442, s_L_law_443, s_L_law_446, s_L_law_447, s_L_law_450, s_L_law_450n, s_L_law_451, s_L_law_452, s_L_law_453, s_L_law_454, s_L_law_455, s_L_law_456, s_L_law_457, s_L_law_458, s_L_law_459, s_L_law_460, s_L_law_461, s_L_law_462, s_L_law_463, s_L_law_464, s_L_law_465, s_L_law_466, s_L_law_467, s_L_law_468, s_L_law_469, s_L_law_470, s_L_law_471, s_L_law_474, s_L_law_475, s_L_law_478, s_L_law_479, s_L_law_482, s_L_law_485, s_L_law_486, ↓reduceIte, Nat.reduceEqDiff, Nat.reduceLT, am_top, ax_f_some, ax_k_some, ax_k_none, s8_0, s8_1, s8_2, s8_3, s8_4, c2p_n, c2p_i, c2p_r, c2p_z, okvp_i, okvp_l, okvp_r, okvp_n, okvp_z, okvp_z0, okvp_z1, bi_narp, am_nar0p, am_nar1p, bi_0, bi_1, true_and, and_true, hj, nI_k2, nI_k3, nI_k4, nI_k5, nI_k6, nI_1, x1, d1, x2, d2, x3, d3, x4, d4, x5, d5, x6, d6, o_40 g1, hb, not_false_eq_true]
      try rfl
    · have hq := hQ τ hI hG
      simp only [s_L_law_418, s_L_law_418n, s_L_law_419, s_L_law_420, s_L_law_421, s_L_law_422, s_L_law_423, s_L_law_424, s_L_law_425, s_L_law_426, s_L_law_427, s_L_law_428, s_L_law_429, s_L_law_430, s_L_law_431, s_L_law_432, s_L_law_433, s_L_law_434, s_L_law_435, s_L_law_436, s_L_law_437, s_L_law_438, s_L_law_439, s_L_law_442, s_L_law_443, s_L_law_446, s_L_law_447, s_L_law_450, s_L_law_450n, s_L_law_451, s_L_law_452, s_L_law_453, s_L_law_454, s_L_law_455, s_L_law_456, s_L_law_457, s_L_law_458, s_L_law_459, s_L_law_460, s_L_law_461, s_L_law_462, s_L_law_463, s_L_law_464, s_L_law_465, s_L_law_466, s_L_law_467, s_L_law_468, s_L_law_469, s_L_law_470, s_L_law_471, s_L_law_474, s_L_law_475, s_L_law_478, s_L_law_479, s_L_law_482, s_L_law_485, s_L_law_486, ↓reduceIte, Nat.reduceEqDiff, Nat.reduceLT, am_top, ax_f_some, ax_k_some, ax_k_none, s8_0, s8_1, s8_2, s8_3, s8_4, c2p_n, c2p_i, c2p_r, c2p_z, okvp_i, okvp_l, okvp_r, okvp_n, okvp_z, okvp_z0, okvp_z1, bi_narp, am_nar0p, am_nar1p, bi_0, bi_1, true_and, and_true]
      exact hq
  · simp only [s_L_law_418, s_L_law_418n, s_L_law_419, s_L_law_420, s_L_law_421, s_L_law_422, s_L_law_423, s_L_law_424, s_L_law_425, s_L_law_426, s_L_law_427, s_L_law_428, s_L_law_429, s_L_law_430, s_L_law_431, s_L_law_432, s_L_law_433, s_L_law_434, s_L_law_435, s_L_law_436, s_L_law_437, s_L_law_438, s_L_law_439, s_L_law_442, s_L_law_443, s_L_law_446, s_L_law_447, s_L_law_450, s_L_law_450n, s_L_law_451, s_L_law_452, s_L_law_453, s_L_law_454, s_L_law_455, s_L_law_456, s_L_law_457, s_L_law_458, s_L_law_459, s_L_law_460, s_L_law_461, s_L_law_462, s_L_law_463, s_L_law_464, s_L_law_465, s_L_law_466, s_L_law_467, s_L_law_468, s_L_law_469, s_L_law_470, s_L_law_471, s_L_law_474, s_L_law_475, s_L_law_478, s_L_law_479, s_L_law_482, s_L_law_485, s_L_law_486, ↓reduceIte, Nat.reduceEqDiff, Nat.reduceLT, am_top, ax_f_some, ax_k_some, ax_k_none, s8_0, s8_1, s8_2, s8_3, s8_4, c2p_n, c2p_i, c2p_r, c2p_z, okvp_i, okvp_l, okvp_r, okvp_n, okvp_z, okvp_z0, okvp_z1, bi_narp, am_nar0p, am_nar1p, bi_0, bi_1, true_and, and_true, hj, nI_k2, nI_k3, nI_k4, nI_k5, nI_k6, nI_1, x1, d1, x2, d2, x3, d3, x4, d4, x5, d5, x6, d6, o_0 hS, hb, not_false_eq_true]
    refine c_has I (xs (i + 1)) (xs (i + 2)) (xs (i + 3)) true _ (fun v => ax_k k_L_law 482 [some (.ref 1000000), some (.ref 0), some (.ref 40), some (.int (nI i))] [.int v] Q) (fun v σ1 g1 g2 => ?_) (fun v τ hI hG => ?_)
    · have hj := scr_j g2
      simp only [s_L_law_418, s_L_law_418n, s_L_law_419, s_L_law_420, s_L_law_421, s_L_law_422, s_L_law_423, s_L_law_424, s_L_law_425, s_L_law_426, s_L_law_427, s_L_law_428, s_L_law_429, s_L_law_430, s_L_law_431, s_L_law_432, s_L_law_433, s_L_law_434, s_L_law_435, s_L_law_436, s_L_law_437, s_L_law_438, s_L_law_439, s_L_law_442, s_L_law_443, s_L_law_446, s_L_law_447, s_L_law_450, s_L_law_450n, s_L_law_451, s_L_law_452, s_L_law_453, s_L_law_454, s_L_law_455, s_L_law_456, s_L_law_457, s_L_law_458, s_L_law_459, s_L_law_460, s_L_law_461, s_L_law_462, s_L_law_463, s_L_law_464, s_L_law_465, s_L_law_466, s_L_law_467, s_L_law_468, s_L_law_469, s_L_law_470, s_L_law_471, s_L_law_474, s_L_law_475, s_L_law_478, s_L_law_479, s_L_law_482, s_L_law_485, s_L_law_486, ↓reduceIte, Nat.reduceEqDiff, Nat.reduceLT, am_top, ax_f_some, ax_k_some, ax_k_none, s8_0, s8_1, s8_2, s8_3, s8_4, c2p_n, c2p_i, c2p_r, c2p_z, okvp_i, okvp_l, okvp_r, okvp_n, okvp_z, okvp_z0, okvp_z1, bi_narp, am_nar0p, am_nar1p, bi_0, bi_1, true_and, and_true, hj, nI_k2, nI_k3, nI_k4, nI_k5, nI_k6, nI_1, x1, d1, x2, d2, x3, d3, x4, d4, x5, d5, x6, d6, o_40 g1, hb, not_false_eq_true]
      try rfl
    · have hq := hQ τ hI hG
      simp only [s_L_law_418, s_L_law_418n, s_L_law_419, s_L_law_420, s_L_law_421, s_L_law_422, s_L_law_423, s_L_law_424, s_L_law_425, s_L_law_426, s_L_law_427, s_L_law_428, s_L_law_429, s_L_law_430, s_L_law_431, s_L_law_432, s_L_law_433, s_L_law_434, s_L_law_435, s_L_law_436, s_L_law_437, s_L_law_438, s_L_law_439, s_L_law_442, s_L_law_443, s_L_law_446, s_L_law_447, s_L_law_450, s_L_law_450n, s_L_law_451, s_L_law_452, s_L_law_453, s_L_law_454, s_L_law_455, s_L_law_456, s_L_law_457, s_L_law_458, s_L_law_459, s_L_law_460, s_L_law_461, s_L_law_462, s_L_law_463, s_L_law_464, s_L_law_465, s_L_law_466, s_L_law_467, s_L_law_468, s_L_law_469, s_L_law_470, s_L_law_471, s_L_law_474, s_L_law_475, s_L_law_478, s_L_law_479, s_L_law_482, s_L_law_485, s_L_law_486, ↓reduceIte, Nat.reduceEqDiff, Nat.reduceLT, am_top, ax_f_some, ax_k_some, ax_k_none, s8_0, s8_1, s8_2, s8_3, s8_4, c2p_n, c2p_i, c2p_r, c2p_z, okvp_i, okvp_l, okvp_r, okvp_n, okvp_z, okvp_z0, okvp_z1, bi_narp, am_nar0p, am_nar1p, bi_0, bi_1, true_and, and_true]
      exact hq
theorem l_search (I : INV L xs σ) (hi : i + 7 ≤ L) (hL : L ≤ 3584) (hQ : ∀ τ, INV L xs τ → Gr σ τ → ax k_L_law 1390 [some (.ref 1000000), some (.ref 0), some (.ref 40), some (.int (nI i))] [] τ Q) : ax k_L_law 487 [some (.ref 1000000), some (.ref 0), some (.ref 40), some (.int (nI i))] [] σ Q := by
  have x1 := ix_nI (show i + 1 < L by omega) (by omega)
  have d1 : (nI (i + 1)).toNatClampNeg = i + 1 := nI_clamp (by omega)
  have x2 := ix_nI (show i + 2 < L by omega) (by omega)
  have d2 : (nI (i + 2)).toNatClampNeg = i + 2 := nI_clamp (by omega)
  have x3 := ix_nI (show i + 3 < L by omega) (by omega)
  have d3 : (nI (i + 3)).toNatClampNeg = i + 3 := nI_clamp (by omega)
  have x4 := ix_nI (show i + 4 < L by omega) (by omega)
  have d4 : (nI (i + 4)).toNatClampNeg = i + 4 := nI_clamp (by omega)
  have x5 := ix_nI (show i + 5 < L by omega) (by omega)
  have d5 : (nI (i + 5)).toNatClampNeg = i + 5 := nI_clamp (by omega)
  have x6 := ix_nI (show i + 6 < L by omega) (by omega)
  have d6 : (nI (i + 6)).toNatClampNeg = i + 6 := nI_clamp (by omega)
  have hS := I.1.1
  have hj := scr_j I.1.2.2
  by_cases hb : xs (i + 3) = 0
  · simp only [s_L_law_487, s_L_law_487n, s_L_law_488, s_L_law_489, s_L_law_490, s_L_law_491, s_L_law_492, s_L_law_493, s_L_law_494, s_L_law_495, s_L_law_496, s_L_law_497, s_L_law_498, s_L_law_499, s_L_law_500, s_L_law_501, s_L_law_502, s_L_law_503, s_L_law_506, s_L_law_507, s_L_law_510, s_L_law_511, s_L_law_514, s_L_law_514n, s_L_law_515, s_L_law_516, s_L_law_517, s_L_law_518, s_L_law_519, s_L_law_520, s_L_law_521, s_L_law_522, s_L_law_523, s_L_law_524, s_L_law_525, s_L_law_526, s_L_law_527, s_L_law_528, s_L_law_529, s_L_law_530, s_L_law_533, s_L_law_534, s_L_law_537, s_L_law_538, s_L_law_541, s_L_law_544, s_L_law_545, ↓reduceIte, Nat.reduceEqDiff, Nat.reduceLT, am_top, ax_f_some, ax_k_some, ax_k_none, s8_0, s8_1, s8_2, s8_3, s8_4, c2p_n, c2p_i, c2p_r, c2p_z, okvp_i, okvp_l, okvp_r, okvp_n, okvp_z, okvp_z0, okvp_z1, bi_narp, am_nar0p, am_nar1p, bi_0, bi_1, true_and, and_true, hj, nI_k2, nI_k3, nI_k4, nI_k5, nI_k6, nI_1, x1, d1, x2, d2, x3, d3, x4, d4, x5, d5, x6, d6, o_0 hS, hb, not_false_eq_true]
    refine c_search I (xs (i + 1)) (xs (i + 2)) false _ (fun v => ax_k k_L_law 541 [some (.ref 1000000), some (.ref 0), some (.ref 40), some (.int (nI i))] [.int v] Q) (fun v σ1 g1 g2 => ?_) (fun v τ hI hG => ?_)
    · have hj := scr_j g2
      simp only [s_L_law_487, s_L_law_487n, s_L_law_488, s_L_law_489, s_L_law_490, s_L_law_491, s_L_law_492, s_L_law_493, s_L_law_494, s_L_law_495, s_L_law_496, s_L_law_497, s_L_law_498, s_L_law_499, s_L_law_500, s_L_law_501, s_L_law_502, s_L_law_503, s_L_law_506, s_L_law_507, s_L_law_510, s_L_law_511, s_L_law_514, s_L_law_514n, s_L_law_515, s_L_law_516, s_L_law_517, s_L_law_518, s_L_law_519, s_L_law_520, s_L_law_521, s_L_law_522, s_L_law_523, s_L_law_524, s_L_law_525, s_L_law_526, s_L_law_527, s_L_law_528, s_L_law_529, s_L_law_530, s_L_law_533, s_L_law_534, s_L_law_537, s_L_law_538, s_L_law_541, s_L_law_544, s_L_law_545, ↓reduceIte, Nat.reduceEqDiff, Nat.reduceLT, am_top, ax_f_some, ax_k_some, ax_k_none, s8_0, s8_1, s8_2, s8_3, s8_4, c2p_n, c2p_i, c2p_r, c2p_z, okvp_i, okvp_l, okvp_r, okvp_n, okvp_z, okvp_z0, okvp_z1, bi_narp, am_nar0p, am_nar1p, bi_0, bi_1, true_and, and_true, hj, nI_k2, nI_k3, nI_k4, nI_k5, nI_k6, nI_1, x1, d1, x2, d2, x3, d3, x4, d4, x5, d5, x6, d6, o_40 g1, hb, not_false_eq_true]
      try rfl
    · have hq := hQ τ hI hG
      simp only [s_L_law_487, s_L_law_487n, s_L_law_488, s_L_law_489, s_L_law_490, s_L_law_491, s_L_law_492, s_L_law_493, s_L_law_494, s_L_law_495, s_L_law_496, s_L_law_497, s_L_law_498, s_L_law_499, s_L_law_500, s_L_law_501, s_L_law_502, s_L_law_503, s_L_law_506, s_L_law_507, s_L_law_510, s_L_law_511, s_L_law_514, s_L_law_514n, s_L_law_515, s_L_law_516, s_L_law_517, s_L_law_518, s_L_law_519, s_L_law_520, s_L_law_521, s_L_law_522, s_L_law_523, s_L_law_524, s_L_law_525, s_L_law_526, s_L_law_527, s_L_law_528, s_L_law_529, s_L_law_530, s_L_law_533, s_L_law_534, s_L_law_537, s_L_law_538, s_L_law_541, s_L_law_544, s_L_law_545, ↓reduceIte, Nat.reduceEqDiff, Nat.reduceLT, am_top, ax_f_some, ax_k_some, ax_k_none, s8_0, s8_1, s8_2, s8_3, s8_4, c2p_n, c2p_i, c2p_r, c2p_z, okvp_i, okvp_l, okvp_r, okvp_n, okvp_z, okvp_z0, okvp_z1, bi_narp, am_nar0p, am_nar1p, bi_0, bi_1, true_and, and_true]
      exact hq
  · simp only [s_L_law_487, s_L_law_487n, s_L_law_488, s_L_law_489, s_L_law_490, s_L_law_491, s_L_law_492, s_L_law_493, s_L_law_494, s_L_law_495, s_L_law_496, s_L_law_497, s_L_law_498, s_L_law_499, s_L_law_500, s_L_law_501, s_L_law_502, s_L_law_503, s_L_law_506, s_L_law_507, s_L_law_510, s_L_law_511, s_L_law_514, s_L_law_514n, s_L_law_515, s_L_law_516, s_L_law_517, s_L_law_518, s_L_law_519, s_L_law_520, s_L_law_521, s_L_law_522, s_L_law_523, s_L_law_524, s_L_law_525, s_L_law_526, s_L_law_527, s_L_law_528, s_L_law_529, s_L_law_530, s_L_law_533, s_L_law_534, s_L_law_537, s_L_law_538, s_L_law_541, s_L_law_544, s_L_law_545, ↓reduceIte, Nat.reduceEqDiff, Nat.reduceLT, am_top, ax_f_some, ax_k_some, ax_k_none, s8_0, s8_1, s8_2, s8_3, s8_4, c2p_n, c2p_i, c2p_r, c2p_z, okvp_i, okvp_l, okvp_r, okvp_n, okvp_z, okvp_z0, okvp_z1, bi_narp, am_nar0p, am_nar1p, bi_0, bi_1, true_and, and_true, hj, nI_k2, nI_k3, nI_k4, nI_k5, nI_k6, nI_1, x1, d1, x2, d2, x3, d3, x4, d4, x5, d5, x6, d6, o_0 hS, hb, not_false_eq_true]
    refine c_search I (xs (i + 1)) (xs (i + 2)) true _ (fun v => ax_k k_L_law 541 [some (.ref 1000000), some (.ref 0), some (.ref 40), some (.int (nI i))] [.int v] Q) (fun v σ1 g1 g2 => ?_) (fun v τ hI hG => ?_)
    · have hj := scr_j g2
      simp only [s_L_law_487, s_L_law_487n, s_L_law_488, s_L_law_489, s_L_law_490, s_L_law_491, s_L_law_492, s_L_law_493, s_L_law_494, s_L_law_495, s_L_law_496, s_L_law_497, s_L_law_498, s_L_law_499, s_L_law_500, s_L_law_501, s_L_law_502, s_L_law_503, s_L_law_506, s_L_law_507, s_L_law_510, s_L_law_511, s_L_law_514, s_L_law_514n, s_L_law_515, s_L_law_516, s_L_law_517, s_L_law_518, s_L_law_519, s_L_law_520, s_L_law_521, s_L_law_522, s_L_law_523, s_L_law_524, s_L_law_525, s_L_law_526, s_L_law_527, s_L_law_528, s_L_law_529, s_L_law_530, s_L_law_533, s_L_law_534, s_L_law_537, s_L_law_538, s_L_law_541, s_L_law_544, s_L_law_545, ↓reduceIte, Nat.reduceEqDiff, Nat.reduceLT, am_top, ax_f_some, ax_k_some, ax_k_none, s8_0, s8_1, s8_2, s8_3, s8_4, c2p_n, c2p_i, c2p_r, c2p_z, okvp_i, okvp_l, okvp_r, okvp_n, okvp_z, okvp_z0, okvp_z1, bi_narp, am_nar0p, am_nar1p, bi_0, bi_1, true_and, and_true, hj, nI_k2, nI_k3, nI_k4, nI_k5, nI_k6, nI_1, x1, d1, x2, d2, x3, d3, x4, d4, x5, d5, x6, d6, o_40 g1, hb, not_false_eq_true]
      try rfl
    · have hq := hQ τ hI hG
      simp only [s_L_law_487, s_L_law_487n, s_L_law_488, s_L_law_489, s_L_law_490, s_L_law_491, s_L_law_492, s_L_law_493, s_L_law_494, s_L_law_495, s_L_law_496, s_L_law_497, s_L_law_498, s_L_law_499, s_L_law_500, s_L_law_501, s_L_law_502, s_L_law_503, s_L_law_506, s_L_law_507, s_L_law_510, s_L_law_511, s_L_law_514, s_L_law_514n, s_L_law_515, s_L_law_516, s_L_law_517, s_L_law_518, s_L_law_519, s_L_law_520, s_L_law_521, s_L_law_522, s_L_law_523, s_L_law_524, s_L_law_525, s_L_law_526, s_L_law_527, s_L_law_528, s_L_law_529, s_L_law_530, s_L_law_533, s_L_law_534, s_L_law_537, s_L_law_538, s_L_law_541, s_L_law_544, s_L_law_545, ↓reduceIte, Nat.reduceEqDiff, Nat.reduceLT, am_top, ax_f_some, ax_k_some, ax_k_none, s8_0, s8_1, s8_2, s8_3, s8_4, c2p_n, c2p_i, c2p_r, c2p_z, okvp_i, okvp_l, okvp_r, okvp_n, okvp_z, okvp_z0, okvp_z1, bi_narp, am_nar0p, am_nar1p, bi_0, bi_1, true_and, and_true]
      exact hq
theorem l_found (I : INV L xs σ) (hi : i + 7 ≤ L) (hL : L ≤ 3584) (hQ : ∀ τ, INV L xs τ → Gr σ τ → ax k_L_law 1390 [some (.ref 1000000), some (.ref 0), some (.ref 40), some (.int (nI i))] [] τ Q) : ax k_L_law 546 [some (.ref 1000000), some (.ref 0), some (.ref 40), some (.int (nI i))] [] σ Q := by
  have x1 := ix_nI (show i + 1 < L by omega) (by omega)
  have d1 : (nI (i + 1)).toNatClampNeg = i + 1 := nI_clamp (by omega)
  have x2 := ix_nI (show i + 2 < L by omega) (by omega)
  have d2 : (nI (i + 2)).toNatClampNeg = i + 2 := nI_clamp (by omega)
  have x3 := ix_nI (show i + 3 < L by omega) (by omega)
  have d3 : (nI (i + 3)).toNatClampNeg = i + 3 := nI_clamp (by omega)
  have x4 := ix_nI (show i + 4 < L by omega) (by omega)
  have d4 : (nI (i + 4)).toNatClampNeg = i + 4 := nI_clamp (by omega)
  have x5 := ix_nI (show i + 5 < L by omega) (by omega)
  have d5 : (nI (i + 5)).toNatClampNeg = i + 5 := nI_clamp (by omega)
  have x6 := ix_nI (show i + 6 < L by omega) (by omega)
  have d6 : (nI (i + 6)).toNatClampNeg = i + 6 := nI_clamp (by omega)
  have hS := I.1.1
  have hj := scr_j I.1.2.2
  by_cases hb : xs (i + 3) = 0
  · simp only [s_L_law_546, s_L_law_546n, s_L_law_547, s_L_law_548, s_L_law_549, s_L_law_550, s_L_law_551, s_L_law_552, s_L_law_553, s_L_law_554, s_L_law_555, s_L_law_556, s_L_law_557, s_L_law_558, s_L_law_559, s_L_law_560, s_L_law_561, s_L_law_562, s_L_law_565, s_L_law_566, s_L_law_569, s_L_law_570, s_L_law_571, s_L_law_572, s_L_law_573, s_L_law_574, s_L_law_575, s_L_law_578, s_L_law_578n, s_L_law_579, s_L_law_580, s_L_law_581, s_L_law_582, s_L_law_583, s_L_law_584, s_L_law_585, s_L_law_586, s_L_law_587, s_L_law_588, s_L_law_589, s_L_law_590, s_L_law_591, s_L_law_592, s_L_law_593, s_L_law_594, s_L_law_597, s_L_law_598, s_L_law_601, s_L_law_602, s_L_law_603, s_L_law_604, s_L_law_605, s_L_law_606, s_L_law_607, s_L_law_610, s_L_law_613, s_L_law_614, ↓reduceIte, Nat.reduceEqDiff, Nat.reduceLT, am_top, ax_f_some, ax_k_some, ax_k_none, s8_0, s8_1, s8_2, s8_3, s8_4, c2p_n, c2p_i, c2p_r, c2p_z, okvp_i, okvp_l, okvp_r, okvp_n, okvp_z, okvp_z0, okvp_z1, bi_narp, am_nar0p, am_nar1p, bi_0, bi_1, true_and, and_true, hj, nI_k2, nI_k3, nI_k4, nI_k5, nI_k6, nI_1, x1, d1, x2, d2, x3, d3, x4, d4, x5, d5, x6, d6, o_0 hS, hb, not_false_eq_true]
    refine c_found I (xs (i + 1)) (xs (i + 2)) false (xs (i + 4)) _ (fun v => ax_k k_L_law 610 [some (.ref 1000000), some (.ref 0), some (.ref 40), some (.int (nI i))] [.int v] Q) (fun v σ1 g1 g2 => ?_) (fun v τ hI hG => ?_)
    · have hj := scr_j g2
      simp only [s_L_law_546, s_L_law_546n, s_L_law_547, s_L_law_548, s_L_law_549, s_L_law_550, s_L_law_551, s_L_law_552, s_L_law_553, s_L_law_554, s_L_law_555, s_L_law_556, s_L_law_557, s_L_law_558, s_L_law_559, s_L_law_560, s_L_law_561, s_L_law_562, s_L_law_565, s_L_law_566, s_L_law_569, s_L_law_570, s_L_law_571, s_L_law_572, s_L_law_573, s_L_law_574, s_L_law_575, s_L_law_578, s_L_law_578n, s_L_law_579, s_L_law_580, s_L_law_581, s_L_law_582, s_L_law_583, s_L_law_584, s_L_law_585, s_L_law_586, s_L_law_587, s_L_law_588, s_L_law_589, s_L_law_590, s_L_law_591, s_L_law_592, s_L_law_593, s_L_law_594, s_L_law_597, s_L_law_598, s_L_law_601, s_L_law_602, s_L_law_603, s_L_law_604, s_L_law_605, s_L_law_606, s_L_law_607, s_L_law_610, s_L_law_613, s_L_law_614, ↓reduceIte, Nat.reduceEqDiff, Nat.reduceLT, am_top, ax_f_some, ax_k_some, ax_k_none, s8_0, s8_1, s8_2, s8_3, s8_4, c2p_n, c2p_i, c2p_r, c2p_z, okvp_i, okvp_l, okvp_r, okvp_n, okvp_z, okvp_z0, okvp_z1, bi_narp, am_nar0p, am_nar1p, bi_0, bi_1, true_and, and_true, hj, nI_k2, nI_k3, nI_k4, nI_k5, nI_k6, nI_1, x1, d1, x2, d2, x3, d3, x4, d4, x5, d5, x6, d6, o_40 g1, hb, not_false_eq_true]
      try rfl
    · have hq := hQ τ hI hG
      simp only [s_L_law_546, s_L_law_546n, s_L_law_547, s_L_law_548, s_L_law_549, s_L_law_550, s_L_law_551, s_L_law_552, s_L_law_553, s_L_law_554, s_L_law_555, s_L_law_556, s_L_law_557, s_L_law_558, s_L_law_559, s_L_law_560, s_L_law_561, s_L_law_562, s_L_law_565, s_L_law_566, s_L_law_569, s_L_law_570, s_L_law_571, s_L_law_572, s_L_law_573, s_L_law_574, s_L_law_575, s_L_law_578, s_L_law_578n, s_L_law_579, s_L_law_580, s_L_law_581, s_L_law_582, s_L_law_583, s_L_law_584, s_L_law_585, s_L_law_586, s_L_law_587, s_L_law_588, s_L_law_589, s_L_law_590, s_L_law_591, s_L_law_592, s_L_law_593, s_L_law_594, s_L_law_597, s_L_law_598, s_L_law_601, s_L_law_602, s_L_law_603, s_L_law_604, s_L_law_605, s_L_law_606, s_L_law_607, s_L_law_610, s_L_law_613, s_L_law_614, ↓reduceIte, Nat.reduceEqDiff, Nat.reduceLT, am_top, ax_f_some, ax_k_some, ax_k_none, s8_0, s8_1, s8_2, s8_3, s8_4, c2p_n, c2p_i, c2p_r, c2p_z, okvp_i, okvp_l, okvp_r, okvp_n, okvp_z, okvp_z0, okvp_z1, bi_narp, am_nar0p, am_nar1p, bi_0, bi_1, true_and, and_true]
      exact hq
  · simp only [s_L_law_546, s_L_law_546n, s_L_law_547, s_L_law_548, s_L_law_549, s_L_law_550, s_L_law_551, s_L_law_552, s_L_law_553, s_L_law_554, s_L_law_555, s_L_law_556, s_L_law_557, s_L_law_558, s_L_law_559, s_L_law_560, s_L_law_561, s_L_law_562, s_L_law_565, s_L_law_566, s_L_law_569, s_L_law_570, s_L_law_571, s_L_law_572, s_L_law_573, s_L_law_574, s_L_law_575, s_L_law_578, s_L_law_578n, s_L_law_579, s_L_law_580, s_L_law_581, s_L_law_582, s_L_law_583, s_L_law_584, s_L_law_585, s_L_law_586, s_L_law_587, s_L_law_588, s_L_law_589, s_L_law_590, s_L_law_591, s_L_law_592, s_L_law_593, s_L_law_594, s_L_law_597, s_L_law_598, s_L_law_601, s_L_law_602, s_L_law_603, s_L_law_604, s_L_law_605, s_L_law_606, s_L_law_607, s_L_law_610, s_L_law_613, s_L_law_614, ↓reduceIte, Nat.reduceEqDiff, Nat.reduceLT, am_top, ax_f_some, ax_k_some, ax_k_none, s8_0, s8_1, s8_2, s8_3, s8_4, c2p_n, c2p_i, c2p_r, c2p_z, okvp_i, okvp_l, okvp_r, okvp_n, okvp_z, okvp_z0, okvp_z1, bi_narp, am_nar0p, am_nar1p, bi_0, bi_1, true_and, and_true, hj, nI_k2, nI_k3, nI_k4, nI_k5, nI_k6, nI_1, x1, d1, x2, d2, x3, d3, x4, d4, x5, d5, x6, d6, o_0 hS, hb, not_false_eq_true]
    refine c_found I (xs (i + 1)) (xs (i + 2)) true (xs (i + 4)) _ (fun v => ax_k k_L_law 610 [some (.ref 1000000), some (.ref 0), some (.ref 40), some (.int (nI i))] [.int v] Q) (fun v σ1 g1 g2 => ?_) (fun v τ hI hG => ?_)
    · have hj := scr_j g2
      simp only [s_L_law_546, s_L_law_546n, s_L_law_547, s_L_law_548, s_L_law_549, s_L_law_550, s_L_law_551, s_L_law_552, s_L_law_553, s_L_law_554, s_L_law_555, s_L_law_556, s_L_law_557, s_L_law_558, s_L_law_559, s_L_law_560, s_L_law_561, s_L_law_562, s_L_law_565, s_L_law_566, s_L_law_569, s_L_law_570, s_L_law_571, s_L_law_572, s_L_law_573, s_L_law_574, s_L_law_575, s_L_law_578, s_L_law_578n, s_L_law_579, s_L_law_580, s_L_law_581, s_L_law_582, s_L_law_583, s_L_law_584, s_L_law_585, s_L_law_586, s_L_law_587, s_L_law_588, s_L_law_589, s_L_law_590, s_L_law_591, s_L_law_592, s_L_law_593, s_L_law_594, s_L_law_597, s_L_law_598, s_L_law_601, s_L_law_602, s_L_law_603, s_L_law_604, s_L_law_605, s_L_law_606, s_L_law_607, s_L_law_610, s_L_law_613, s_L_law_614, ↓reduceIte, Nat.reduceEqDiff, Nat.reduceLT, am_top, ax_f_some, ax_k_some, ax_k_none, s8_0, s8_1, s8_2, s8_3, s8_4, c2p_n, c2p_i, c2p_r, c2p_z, okvp_i, okvp_l, okvp_r, okvp_n, okvp_z, okvp_z0, okvp_z1, bi_narp, am_nar0p, am_nar1p, bi_0, bi_1, true_and, and_true, hj, nI_k2, nI_k3, nI_k4, nI_k5, nI_k6, nI_1, x1, d1, x2, d2, x3, d3, x4, d4, x5, d5, x6, d6, o_40 g1, hb, not_false_eq_true]
      try rfl
    · have hq := hQ τ hI hG
      simp only [s_L_law_546, s_L_law_546n, s_L_law_547, s_L_law_548, s_L_law_549, s_L_law_550, s_L_law_551, s_L_law_552, s_L_law_553, s_L_law_554, s_L_law_555, s_L_law_556, s_L_law_557, s_L_law_558, s_L_law_559, s_L_law_560, s_L_law_561, s_L_law_562, s_L_law_565, s_L_law_566, s_L_law_569, s_L_law_570, s_L_law_571, s_L_law_572, s_L_law_573, s_L_law_574, s_L_law_575, s_L_law_578, s_L_law_578n, s_L_law_579, s_L_law_580, s_L_law_581, s_L_law_582, s_L_law_583, s_L_law_584, s_L_law_585, s_L_law_586, s_L_law_587, s_L_law_588, s_L_law_589, s_L_law_590, s_L_law_591, s_L_law_592, s_L_law_593, s_L_law_594, s_L_law_597, s_L_law_598, s_L_law_601, s_L_law_602, s_L_law_603, s_L_law_604, s_L_law_605, s_L_law_606, s_L_law_607, s_L_law_610, s_L_law_613, s_L_law_614, ↓reduceIte, Nat.reduceEqDiff, Nat.reduceLT, am_top, ax_f_some, ax_k_some, ax_k_none, s8_0, s8_1, s8_2, s8_3, s8_4, c2p_n, c2p_i, c2p_r, c2p_z, okvp_i, okvp_l, okvp_r, okvp_n, okvp_z, okvp_z0, okvp_z1, bi_narp, am_nar0p, am_nar1p, bi_0, bi_1, true_and, and_true]
      exact hq
theorem l_far (I : INV L xs σ) (hi : i + 7 ≤ L) (hL : L ≤ 3584) (hQ : ∀ τ, INV L xs τ → Gr σ τ → ax k_L_law 1390 [some (.ref 1000000), some (.ref 0), some (.ref 40), some (.int (nI i))] [] τ Q) : ax k_L_law 615 [some (.ref 1000000), some (.ref 0), some (.ref 40), some (.int (nI i))] [] σ Q := by
  have x1 := ix_nI (show i + 1 < L by omega) (by omega)
  have d1 : (nI (i + 1)).toNatClampNeg = i + 1 := nI_clamp (by omega)
  have x2 := ix_nI (show i + 2 < L by omega) (by omega)
  have d2 : (nI (i + 2)).toNatClampNeg = i + 2 := nI_clamp (by omega)
  have x3 := ix_nI (show i + 3 < L by omega) (by omega)
  have d3 : (nI (i + 3)).toNatClampNeg = i + 3 := nI_clamp (by omega)
  have x4 := ix_nI (show i + 4 < L by omega) (by omega)
  have d4 : (nI (i + 4)).toNatClampNeg = i + 4 := nI_clamp (by omega)
  have x5 := ix_nI (show i + 5 < L by omega) (by omega)
  have d5 : (nI (i + 5)).toNatClampNeg = i + 5 := nI_clamp (by omega)
  have x6 := ix_nI (show i + 6 < L by omega) (by omega)
  have d6 : (nI (i + 6)).toNatClampNeg = i + 6 := nI_clamp (by omega)
  have hS := I.1.1
  have hj := scr_j I.1.2.2
  simp only [s_L_law_615, s_L_law_615n, s_L_law_616, s_L_law_617, s_L_law_618, s_L_law_619, s_L_law_620, s_L_law_621, s_L_law_622, s_L_law_623, s_L_law_624, s_L_law_625, s_L_law_626, s_L_law_629, s_L_law_629n, s_L_law_630, s_L_law_631, s_L_law_632, s_L_law_633, s_L_law_634, s_L_law_635, s_L_law_636, s_L_law_637, s_L_law_638, s_L_law_639, s_L_law_640, s_L_law_643, s_L_law_646, s_L_law_647, ↓reduceIte, Nat.reduceEqDiff, Nat.reduceLT, am_top, ax_f_some, ax_k_some, ax_k_none, s8_0, s8_1, s8_2, s8_3, s8_4, c2p_n, c2p_i, c2p_r, c2p_z, okvp_i, okvp_l, okvp_r, okvp_n, okvp_z, okvp_z0, okvp_z1, bi_narp, am_nar0p, am_nar1p, bi_0, bi_1, true_and, and_true, hj, nI_k2, nI_k3, nI_k4, nI_k5, nI_k6, nI_1, x1, d1, x2, d2, x3, d3, x4, d4, x5, d5, x6, d6, o_0 hS]
  refine c_far I (xs (i + 1)) (xs (i + 2)) _ (fun v => ax_k k_L_law 643 [some (.ref 1000000), some (.ref 0), some (.ref 40), some (.int (nI i))] [.int v] Q) (fun v σ1 g1 g2 => ?_) (fun v τ hI hG => ?_)
  · have hj := scr_j g2
    simp only [s_L_law_615, s_L_law_615n, s_L_law_616, s_L_law_617, s_L_law_618, s_L_law_619, s_L_law_620, s_L_law_621, s_L_law_622, s_L_law_623, s_L_law_624, s_L_law_625, s_L_law_626, s_L_law_629, s_L_law_629n, s_L_law_630, s_L_law_631, s_L_law_632, s_L_law_633, s_L_law_634, s_L_law_635, s_L_law_636, s_L_law_637, s_L_law_638, s_L_law_639, s_L_law_640, s_L_law_643, s_L_law_646, s_L_law_647, ↓reduceIte, Nat.reduceEqDiff, Nat.reduceLT, am_top, ax_f_some, ax_k_some, ax_k_none, s8_0, s8_1, s8_2, s8_3, s8_4, c2p_n, c2p_i, c2p_r, c2p_z, okvp_i, okvp_l, okvp_r, okvp_n, okvp_z, okvp_z0, okvp_z1, bi_narp, am_nar0p, am_nar1p, bi_0, bi_1, true_and, and_true, hj, nI_k2, nI_k3, nI_k4, nI_k5, nI_k6, nI_1, x1, d1, x2, d2, x3, d3, x4, d4, x5, d5, x6, d6, o_40 g1]
  · have hq := hQ τ hI hG
    simp only [s_L_law_615, s_L_law_615n, s_L_law_616, s_L_law_617, s_L_law_618, s_L_law_619, s_L_law_620, s_L_law_621, s_L_law_622, s_L_law_623, s_L_law_624, s_L_law_625, s_L_law_626, s_L_law_629, s_L_law_629n, s_L_law_630, s_L_law_631, s_L_law_632, s_L_law_633, s_L_law_634, s_L_law_635, s_L_law_636, s_L_law_637, s_L_law_638, s_L_law_639, s_L_law_640, s_L_law_643, s_L_law_646, s_L_law_647, ↓reduceIte, Nat.reduceEqDiff, Nat.reduceLT, am_top, ax_f_some, ax_k_some, ax_k_none, s8_0, s8_1, s8_2, s8_3, s8_4, c2p_n, c2p_i, c2p_r, c2p_z, okvp_i, okvp_l, okvp_r, okvp_n, okvp_z, okvp_z0, okvp_z1, bi_narp, am_nar0p, am_nar1p, bi_0, bi_1, true_and, and_true]
    exact hq
theorem l_limit (I : INV L xs σ) (hi : i + 7 ≤ L) (hL : L ≤ 3584) (hQ : ∀ τ, INV L xs τ → Gr σ τ → ax k_L_law 1390 [some (.ref 1000000), some (.ref 0), some (.ref 40), some (.int (nI i))] [] τ Q) : ax k_L_law 648 [some (.ref 1000000), some (.ref 0), some (.ref 40), some (.int (nI i))] [] σ Q := by
  have x1 := ix_nI (show i + 1 < L by omega) (by omega)
  have d1 : (nI (i + 1)).toNatClampNeg = i + 1 := nI_clamp (by omega)
  have x2 := ix_nI (show i + 2 < L by omega) (by omega)
  have d2 : (nI (i + 2)).toNatClampNeg = i + 2 := nI_clamp (by omega)
  have x3 := ix_nI (show i + 3 < L by omega) (by omega)
  have d3 : (nI (i + 3)).toNatClampNeg = i + 3 := nI_clamp (by omega)
  have x4 := ix_nI (show i + 4 < L by omega) (by omega)
  have d4 : (nI (i + 4)).toNatClampNeg = i + 4 := nI_clamp (by omega)
  have x5 := ix_nI (show i + 5 < L by omega) (by omega)
  have d5 : (nI (i + 5)).toNatClampNeg = i + 5 := nI_clamp (by omega)
  have x6 := ix_nI (show i + 6 < L by omega) (by omega)
  have d6 : (nI (i + 6)).toNatClampNeg = i + 6 := nI_clamp (by omega)
  have hS := I.1.1
  have hj := scr_j I.1.2.2
  simp only [s_L_law_648, s_L_law_648n, s_L_law_649, s_L_law_650, s_L_law_651, s_L_law_652, s_L_law_653, s_L_law_654, s_L_law_657, s_L_law_657n, s_L_law_658, s_L_law_659, s_L_law_660, s_L_law_661, s_L_law_662, s_L_law_663, s_L_law_666, s_L_law_669, s_L_law_670, ↓reduceIte, Nat.reduceEqDiff, Nat.reduceLT, am_top, ax_f_some, ax_k_some, ax_k_none, s8_0, s8_1, s8_2, s8_3, s8_4, c2p_n, c2p_i, c2p_r, c2p_z, okvp_i, okvp_l, okvp_r, okvp_n, okvp_z, okvp_z0, okvp_z1, bi_narp, am_nar0p, am_nar1p, bi_0, bi_1, true_and, and_true, hj, nI_k2, nI_k3, nI_k4, nI_k5, nI_k6, nI_1, x1, d1, x2, d2, x3, d3, x4, d4, x5, d5, x6, d6, o_0 hS]
  refine c_limit I (xs (i + 1)) _ (fun v => ax_k k_L_law 666 [some (.ref 1000000), some (.ref 0), some (.ref 40), some (.int (nI i))] [.int v] Q) (fun v σ1 g1 g2 => ?_) (fun v τ hI hG => ?_)
  · have hj := scr_j g2
    simp only [s_L_law_648, s_L_law_648n, s_L_law_649, s_L_law_650, s_L_law_651, s_L_law_652, s_L_law_653, s_L_law_654, s_L_law_657, s_L_law_657n, s_L_law_658, s_L_law_659, s_L_law_660, s_L_law_661, s_L_law_662, s_L_law_663, s_L_law_666, s_L_law_669, s_L_law_670, ↓reduceIte, Nat.reduceEqDiff, Nat.reduceLT, am_top, ax_f_some, ax_k_some, ax_k_none, s8_0, s8_1, s8_2, s8_3, s8_4, c2p_n, c2p_i, c2p_r, c2p_z, okvp_i, okvp_l, okvp_r, okvp_n, okvp_z, okvp_z0, okvp_z1, bi_narp, am_nar0p, am_nar1p, bi_0, bi_1, true_and, and_true, hj, nI_k2, nI_k3, nI_k4, nI_k5, nI_k6, nI_1, x1, d1, x2, d2, x3, d3, x4, d4, x5, d5, x6, d6, o_40 g1]
  · have hq := hQ τ hI hG
    simp only [s_L_law_648, s_L_law_648n, s_L_law_649, s_L_law_650, s_L_law_651, s_L_law_652, s_L_law_653, s_L_law_654, s_L_law_657, s_L_law_657n, s_L_law_658, s_L_law_659, s_L_law_660, s_L_law_661, s_L_law_662, s_L_law_663, s_L_law_666, s_L_law_669, s_L_law_670, ↓reduceIte, Nat.reduceEqDiff, Nat.reduceLT, am_top, ax_f_some, ax_k_some, ax_k_none, s8_0, s8_1, s8_2, s8_3, s8_4, c2p_n, c2p_i, c2p_r, c2p_z, okvp_i, okvp_l, okvp_r, okvp_n, okvp_z, okvp_z0, okvp_z1, bi_narp, am_nar0p, am_nar1p, bi_0, bi_1, true_and, and_true]
    exact hq
theorem l_set (I : INV L xs σ) (hi : i + 7 ≤ L) (hL : L ≤ 3584) (hQ : ∀ τ, INV L xs τ → Gr σ τ → ax k_L_law 1390 [some (.ref 1000000), some (.ref 0), some (.ref 40), some (.int (nI i))] [] τ Q) : ax k_L_law 671 [some (.ref 1000000), some (.ref 0), some (.ref 40), some (.int (nI i))] [] σ Q := by
  have x1 := ix_nI (show i + 1 < L by omega) (by omega)
  have d1 : (nI (i + 1)).toNatClampNeg = i + 1 := nI_clamp (by omega)
  have x2 := ix_nI (show i + 2 < L by omega) (by omega)
  have d2 : (nI (i + 2)).toNatClampNeg = i + 2 := nI_clamp (by omega)
  have x3 := ix_nI (show i + 3 < L by omega) (by omega)
  have d3 : (nI (i + 3)).toNatClampNeg = i + 3 := nI_clamp (by omega)
  have x4 := ix_nI (show i + 4 < L by omega) (by omega)
  have d4 : (nI (i + 4)).toNatClampNeg = i + 4 := nI_clamp (by omega)
  have x5 := ix_nI (show i + 5 < L by omega) (by omega)
  have d5 : (nI (i + 5)).toNatClampNeg = i + 5 := nI_clamp (by omega)
  have x6 := ix_nI (show i + 6 < L by omega) (by omega)
  have d6 : (nI (i + 6)).toNatClampNeg = i + 6 := nI_clamp (by omega)
  have hS := I.1.1
  have hj := scr_j I.1.2.2
  simp only [s_L_law_671, s_L_law_671n, s_L_law_672, s_L_law_673, s_L_law_674, s_L_law_675, s_L_law_676, s_L_law_677, s_L_law_678, s_L_law_679, s_L_law_680, s_L_law_681, s_L_law_682, s_L_law_685, s_L_law_685n, s_L_law_686, s_L_law_687, s_L_law_688, s_L_law_689, s_L_law_690, s_L_law_691, s_L_law_692, s_L_law_693, s_L_law_694, s_L_law_695, s_L_law_696, s_L_law_699, s_L_law_702, s_L_law_703, ↓reduceIte, Nat.reduceEqDiff, Nat.reduceLT, am_top, ax_f_some, ax_k_some, ax_k_none, s8_0, s8_1, s8_2, s8_3, s8_4, c2p_n, c2p_i, c2p_r, c2p_z, okvp_i, okvp_l, okvp_r, okvp_n, okvp_z, okvp_z0, okvp_z1, bi_narp, am_nar0p, am_nar1p, bi_0, bi_1, true_and, and_true, hj, nI_k2, nI_k3, nI_k4, nI_k5, nI_k6, nI_1, x1, d1, x2, d2, x3, d3, x4, d4, x5, d5, x6, d6, o_0 hS]
  refine c_set I (xs (i + 1)) (xs (i + 2)) _ (fun v => ax_k k_L_law 699 [some (.ref 1000000), some (.ref 0), some (.ref 40), some (.int (nI i))] [.int v] Q) (fun v σ1 g1 g2 => ?_) (fun v τ hI hG => ?_)
  · have hj := scr_j g2
    simp only [s_L_law_671, s_L_law_671n, s_L_law_672, s_L_law_673, s_L_law_674, s_L_law_675, s_L_law_676, s_L_law_677, s_L_law_678, s_L_law_679, s_L_law_680, s_L_law_681, s_L_law_682, s_L_law_685, s_L_law_685n, s_L_law_686, s_L_law_687, s_L_law_688, s_L_law_689, s_L_law_690, s_L_law_691, s_L_law_692, s_L_law_693, s_L_law_694, s_L_law_695, s_L_law_696, s_L_law_699, s_L_law_702, s_L_law_703, ↓reduceIte, Nat.reduceEqDiff, Nat.reduceLT, am_top, ax_f_some, ax_k_some, ax_k_none, s8_0, s8_1, s8_2, s8_3, s8_4, c2p_n, c2p_i, c2p_r, c2p_z, okvp_i, okvp_l, okvp_r, okvp_n, okvp_z, okvp_z0, okvp_z1, bi_narp, am_nar0p, am_nar1p, bi_0, bi_1, true_and, and_true, hj, nI_k2, nI_k3, nI_k4, nI_k5, nI_k6, nI_1, x1, d1, x2, d2, x3, d3, x4, d4, x5, d5, x6, d6, o_40 g1]
  · have hq := hQ τ hI hG
    simp only [s_L_law_671, s_L_law_671n, s_L_law_672, s_L_law_673, s_L_law_674, s_L_law_675, s_L_law_676, s_L_law_677, s_L_law_678, s_L_law_679, s_L_law_680, s_L_law_681, s_L_law_682, s_L_law_685, s_L_law_685n, s_L_law_686, s_L_law_687, s_L_law_688, s_L_law_689, s_L_law_690, s_L_law_691, s_L_law_692, s_L_law_693, s_L_law_694, s_L_law_695, s_L_law_696, s_L_law_699, s_L_law_702, s_L_law_703, ↓reduceIte, Nat.reduceEqDiff, Nat.reduceLT, am_top, ax_f_some, ax_k_some, ax_k_none, s8_0, s8_1, s8_2, s8_3, s8_4, c2p_n, c2p_i, c2p_r, c2p_z, okvp_i, okvp_l, okvp_r, okvp_n, okvp_z, okvp_z0, okvp_z1, bi_narp, am_nar0p, am_nar1p, bi_0, bi_1, true_and, and_true]
    exact hq
theorem l_leave (I : INV L xs σ) (hi : i + 7 ≤ L) (hL : L ≤ 3584) (hQ : ∀ τ, INV L xs τ → Gr σ τ → ax k_L_law 1390 [some (.ref 1000000), some (.ref 0), some (.ref 40), some (.int (nI i))] [] τ Q) : ax k_L_law 704 [some (.ref 1000000), some (.ref 0), some (.ref 40), some (.int (nI i))] [] σ Q := by
  have x1 := ix_nI (show i + 1 < L by omega) (by omega)
  have d1 : (nI (i + 1)).toNatClampNeg = i + 1 := nI_clamp (by omega)
  have x2 := ix_nI (show i + 2 < L by omega) (by omega)
  have d2 : (nI (i + 2)).toNatClampNeg = i + 2 := nI_clamp (by omega)
  have x3 := ix_nI (show i + 3 < L by omega) (by omega)
  have d3 : (nI (i + 3)).toNatClampNeg = i + 3 := nI_clamp (by omega)
  have x4 := ix_nI (show i + 4 < L by omega) (by omega)
  have d4 : (nI (i + 4)).toNatClampNeg = i + 4 := nI_clamp (by omega)
  have x5 := ix_nI (show i + 5 < L by omega) (by omega)
  have d5 : (nI (i + 5)).toNatClampNeg = i + 5 := nI_clamp (by omega)
  have x6 := ix_nI (show i + 6 < L by omega) (by omega)
  have d6 : (nI (i + 6)).toNatClampNeg = i + 6 := nI_clamp (by omega)
  have hS := I.1.1
  have hj := scr_j I.1.2.2
  by_cases hb : xs (i + 2) = 0
  · simp only [s_L_law_704, s_L_law_704n, s_L_law_705, s_L_law_706, s_L_law_707, s_L_law_708, s_L_law_709, s_L_law_710, s_L_law_711, s_L_law_712, s_L_law_713, s_L_law_714, s_L_law_715, s_L_law_718, s_L_law_719, s_L_law_722, s_L_law_723, s_L_law_726, s_L_law_726n, s_L_law_727, s_L_law_728, s_L_law_729, s_L_law_730, s_L_law_731, s_L_law_732, s_L_law_733, s_L_law_734, s_L_law_735, s_L_law_736, s_L_law_737, s_L_law_740, s_L_law_741, s_L_law_744, s_L_law_745, s_L_law_748, s_L_law_751, s_L_law_752, ↓reduceIte, Nat.reduceEqDiff, Nat.reduceLT, am_top, ax_f_some, ax_k_some, ax_k_none, s8_0, s8_1, s8_2, s8_3, s8_4, c2p_n, c2p_i, c2p_r, c2p_z, okvp_i, okvp_l, okvp_r, okvp_n, okvp_z, okvp_z0, okvp_z1, bi_narp, am_nar0p, am_nar1p, bi_0, bi_1, true_and, and_true, hj, nI_k2, nI_k3, nI_k4, nI_k5, nI_k6, nI_1, x1, d1, x2, d2, x3, d3, x4, d4, x5, d5, x6, d6, o_0 hS, hb, not_false_eq_true]
    refine c_leave I (xs (i + 1)) false _ (fun v => ax_k k_L_law 748 [some (.ref 1000000), some (.ref 0), some (.ref 40), some (.int (nI i))] [.int v] Q) (fun v σ1 g1 g2 => ?_) (fun v τ hI hG => ?_)
    · have hj := scr_j g2
      simp only [s_L_law_704, s_L_law_704n, s_L_law_705, s_L_law_706, s_L_law_707, s_L_law_708, s_L_law_709, s_L_law_710, s_L_law_711, s_L_law_712, s_L_law_713, s_L_law_714, s_L_law_715, s_L_law_718, s_L_law_719, s_L_law_722, s_L_law_723, s_L_law_726, s_L_law_726n, s_L_law_727, s_L_law_728, s_L_law_729, s_L_law_730, s_L_law_731, s_L_law_732, s_L_law_733, s_L_law_734, s_L_law_735, s_L_law_736, s_L_law_737, s_L_law_740, s_L_law_741, s_L_law_744, s_L_law_745, s_L_law_748, s_L_law_751, s_L_law_752, ↓reduceIte, Nat.reduceEqDiff, Nat.reduceLT, am_top, ax_f_some, ax_k_some, ax_k_none, s8_0, s8_1, s8_2, s8_3, s8_4, c2p_n, c2p_i, c2p_r, c2p_z, okvp_i, okvp_l, okvp_r, okvp_n, okvp_z, okvp_z0, okvp_z1, bi_narp, am_nar0p, am_nar1p, bi_0, bi_1, true_and, and_true, hj, nI_k2, nI_k3, nI_k4, nI_k5, nI_k6, nI_1, x1, d1, x2, d2, x3, d3, x4, d4, x5, d5, x6, d6, o_40 g1, hb, not_false_eq_true]
      try rfl
    · have hq := hQ τ hI hG
      simp only [s_L_law_704, s_L_law_704n, s_L_law_705, s_L_law_706, s_L_law_707, s_L_law_708, s_L_law_709, s_L_law_710, s_L_law_711, s_L_law_712, s_L_law_713, s_L_law_714, s_L_law_715, s_L_law_718, s_L_law_719, s_L_law_722, s_L_law_723, s_L_law_726, s_L_law_726n, s_L_law_727, s_L_law_728, s_L_law_729, s_L_law_730, s_L_law_731, s_L_law_732, s_L_law_733, s_L_law_734, s_L_law_735, s_L_law_736, s_L_law_737, s_L_law_740, s_L_law_741, s_L_law_744, s_L_law_745, s_L_law_748, s_L_law_751, s_L_law_752, ↓reduceIte, Nat.reduceEqDiff, Nat.reduceLT, am_top, ax_f_some, ax_k_some, ax_k_none, s8_0, s8_1, s8_2, s8_3, s8_4, c2p_n, c2p_i, c2p_r, c2p_z, okvp_i, okvp_l, okvp_r, okvp_n, okvp_z, okvp_z0, okvp_z1, bi_narp, am_nar0p, am_nar1p, bi_0, bi_1, true_and, and_true]
      exact hq
  · simp only [s_L_law_704, s_L_law_704n, s_L_law_705, s_L_law_706, s_L_law_707, s_L_law_708, s_L_law_709, s_L_law_710, s_L_law_711, s_L_law_712, s_L_law_713, s_L_law_714, s_L_law_715, s_L_law_718, s_L_law_719, s_L_law_722, s_L_law_723, s_L_law_726, s_L_law_726n, s_L_law_727, s_L_law_728, s_L_law_729, s_L_law_730, s_L_law_731, s_L_law_732, s_L_law_733, s_L_law_734, s_L_law_735, s_L_law_736, s_L_law_737, s_L_law_740, s_L_law_741, s_L_law_744, s_L_law_745, s_L_law_748, s_L_law_751, s_L_law_752, ↓reduceIte, Nat.reduceEqDiff, Nat.reduceLT, am_top, ax_f_some, ax_k_some, ax_k_none, s8_0, s8_1, s8_2, s8_3, s8_4, c2p_n, c2p_i, c2p_r, c2p_z, okvp_i, okvp_l, okvp_r, okvp_n, okvp_z, okvp_z0, okvp_z1, bi_narp, am_nar0p, am_nar1p, bi_0, bi_1, true_and, and_true, hj, nI_k2, nI_k3, nI_k4, nI_k5, nI_k6, nI_1, x1, d1, x2, d2, x3, d3, x4, d4, x5, d5, x6, d6, o_0 hS, hb, not_false_eq_true]
    refine c_leave I (xs (i + 1)) true _ (fun v => ax_k k_L_law 748 [some (.ref 1000000), some (.ref 0), some (.ref 40), some (.int (nI i))] [.int v] Q) (fun v σ1 g1 g2 => ?_) (fun v τ hI hG => ?_)
    · have hj := scr_j g2
      simp only [s_L_law_704, s_L_law_704n, s_L_law_705, s_L_law_706, s_L_law_707, s_L_law_708, s_L_law_709, s_L_law_710, s_L_law_711, s_L_law_712, s_L_law_713, s_L_law_714, s_L_law_715, s_L_law_718, s_L_law_719, s_L_law_722, s_L_law_723, s_L_law_726, s_L_law_726n, s_L_law_727, s_L_law_728, s_L_law_729, s_L_law_730, s_L_law_731, s_L_law_732, s_L_law_733, s_L_law_734, s_L_law_735, s_L_law_736, s_L_law_737, s_L_law_740, s_L_law_741, s_L_law_744, s_L_law_745, s_L_law_748, s_L_law_751, s_L_law_752, ↓reduceIte, Nat.reduceEqDiff, Nat.reduceLT, am_top, ax_f_some, ax_k_some, ax_k_none, s8_0, s8_1, s8_2, s8_3, s8_4, c2p_n, c2p_i, c2p_r, c2p_z, okvp_i, okvp_l, okvp_r, okvp_n, okvp_z, okvp_z0, okvp_z1, bi_narp, am_nar0p, am_nar1p, bi_0, bi_1, true_and, and_true, hj, nI_k2, nI_k3, nI_k4, nI_k5, nI_k6, nI_1, x1, d1, x2, d2, x3, d3, x4, d4, x5, d5, x6, d6, o_40 g1, hb, not_false_eq_true]
      try rfl
    · have hq := hQ τ hI hG
      simp only [s_L_law_704, s_L_law_704n, s_L_law_705, s_L_law_706, s_L_law_707, s_L_law_708, s_L_law_709, s_L_law_710, s_L_law_711, s_L_law_712, s_L_law_713, s_L_law_714, s_L_law_715, s_L_law_718, s_L_law_719, s_L_law_722, s_L_law_723, s_L_law_726, s_L_law_726n, s_L_law_727, s_L_law_728, s_L_law_729, s_L_law_730, s_L_law_731, s_L_law_732, s_L_law_733, s_L_law_734, s_L_law_735, s_L_law_736, s_L_law_737, s_L_law_740, s_L_law_741, s_L_law_744, s_L_law_745, s_L_law_748, s_L_law_751, s_L_law_752, ↓reduceIte, Nat.reduceEqDiff, Nat.reduceLT, am_top, ax_f_some, ax_k_some, ax_k_none, s8_0, s8_1, s8_2, s8_3, s8_4, c2p_n, c2p_i, c2p_r, c2p_z, okvp_i, okvp_l, okvp_r, okvp_n, okvp_z, okvp_z0, okvp_z1, bi_narp, am_nar0p, am_nar1p, bi_0, bi_1, true_and, and_true]
      exact hq
theorem l_embargo (I : INV L xs σ) (hi : i + 7 ≤ L) (hL : L ≤ 3584) (hQ : ∀ τ, INV L xs τ → Gr σ τ → ax k_L_law 1390 [some (.ref 1000000), some (.ref 0), some (.ref 40), some (.int (nI i))] [] τ Q) : ax k_L_law 753 [some (.ref 1000000), some (.ref 0), some (.ref 40), some (.int (nI i))] [] σ Q := by
  have x1 := ix_nI (show i + 1 < L by omega) (by omega)
  have d1 : (nI (i + 1)).toNatClampNeg = i + 1 := nI_clamp (by omega)
  have x2 := ix_nI (show i + 2 < L by omega) (by omega)
  have d2 : (nI (i + 2)).toNatClampNeg = i + 2 := nI_clamp (by omega)
  have x3 := ix_nI (show i + 3 < L by omega) (by omega)
  have d3 : (nI (i + 3)).toNatClampNeg = i + 3 := nI_clamp (by omega)
  have x4 := ix_nI (show i + 4 < L by omega) (by omega)
  have d4 : (nI (i + 4)).toNatClampNeg = i + 4 := nI_clamp (by omega)
  have x5 := ix_nI (show i + 5 < L by omega) (by omega)
  have d5 : (nI (i + 5)).toNatClampNeg = i + 5 := nI_clamp (by omega)
  have x6 := ix_nI (show i + 6 < L by omega) (by omega)
  have d6 : (nI (i + 6)).toNatClampNeg = i + 6 := nI_clamp (by omega)
  have hS := I.1.1
  have hj := scr_j I.1.2.2
  simp only [s_L_law_753, s_L_law_753n, s_L_law_754, s_L_law_755, s_L_law_756, s_L_law_757, s_L_law_758, s_L_law_759, s_L_law_760, s_L_law_761, s_L_law_762, s_L_law_763, s_L_law_764, s_L_law_767, s_L_law_767n, s_L_law_768, s_L_law_769, s_L_law_770, s_L_law_771, s_L_law_772, s_L_law_773, s_L_law_774, s_L_law_775, s_L_law_776, s_L_law_777, s_L_law_778, s_L_law_781, s_L_law_784, s_L_law_785, ↓reduceIte, Nat.reduceEqDiff, Nat.reduceLT, am_top, ax_f_some, ax_k_some, ax_k_none, s8_0, s8_1, s8_2, s8_3, s8_4, c2p_n, c2p_i, c2p_r, c2p_z, okvp_i, okvp_l, okvp_r, okvp_n, okvp_z, okvp_z0, okvp_z1, bi_narp, am_nar0p, am_nar1p, bi_0, bi_1, true_and, and_true, hj, nI_k2, nI_k3, nI_k4, nI_k5, nI_k6, nI_1, x1, d1, x2, d2, x3, d3, x4, d4, x5, d5, x6, d6, o_0 hS]
  refine c_embargo I (xs (i + 1)) (xs (i + 2)) _ (fun v => ax_k k_L_law 781 [some (.ref 1000000), some (.ref 0), some (.ref 40), some (.int (nI i))] [.int v] Q) (fun v σ1 g1 g2 => ?_) (fun v τ hI hG => ?_)
  · have hj := scr_j g2
    simp only [s_L_law_753, s_L_law_753n, s_L_law_754, s_L_law_755, s_L_law_756, s_L_law_757, s_L_law_758, s_L_law_759, s_L_law_760, s_L_law_761, s_L_law_762, s_L_law_763, s_L_law_764, s_L_law_767, s_L_law_767n, s_L_law_768, s_L_law_769, s_L_law_770, s_L_law_771, s_L_law_772, s_L_law_773, s_L_law_774, s_L_law_775, s_L_law_776, s_L_law_777, s_L_law_778, s_L_law_781, s_L_law_784, s_L_law_785, ↓reduceIte, Nat.reduceEqDiff, Nat.reduceLT, am_top, ax_f_some, ax_k_some, ax_k_none, s8_0, s8_1, s8_2, s8_3, s8_4, c2p_n, c2p_i, c2p_r, c2p_z, okvp_i, okvp_l, okvp_r, okvp_n, okvp_z, okvp_z0, okvp_z1, bi_narp, am_nar0p, am_nar1p, bi_0, bi_1, true_and, and_true, hj, nI_k2, nI_k3, nI_k4, nI_k5, nI_k6, nI_1, x1, d1, x2, d2, x3, d3, x4, d4, x5, d5, x6, d6, o_40 g1]
  · have hq := hQ τ hI hG
    simp only [s_L_law_753, s_L_law_753n, s_L_law_754, s_L_law_755, s_L_law_756, s_L_law_757, s_L_law_758, s_L_law_759, s_L_law_760, s_L_law_761, s_L_law_762, s_L_law_763, s_L_law_764, s_L_law_767, s_L_law_767n, s_L_law_768, s_L_law_769, s_L_law_770, s_L_law_771, s_L_law_772, s_L_law_773, s_L_law_774, s_L_law_775, s_L_law_776, s_L_law_777, s_L_law_778, s_L_law_781, s_L_law_784, s_L_law_785, ↓reduceIte, Nat.reduceEqDiff, Nat.reduceLT, am_top, ax_f_some, ax_k_some, ax_k_none, s8_0, s8_1, s8_2, s8_3, s8_4, c2p_n, c2p_i, c2p_r, c2p_z, okvp_i, okvp_l, okvp_r, okvp_n, okvp_z, okvp_z0, okvp_z1, bi_narp, am_nar0p, am_nar1p, bi_0, bi_1, true_and, and_true]
    exact hq
theorem l_known (I : INV L xs σ) (hi : i + 7 ≤ L) (hL : L ≤ 3584) (hQ : ∀ τ, INV L xs τ → Gr σ τ → ax k_L_law 1390 [some (.ref 1000000), some (.ref 0), some (.ref 40), some (.int (nI i))] [] τ Q) : ax k_L_law 786 [some (.ref 1000000), some (.ref 0), some (.ref 40), some (.int (nI i))] [] σ Q := by
  have x1 := ix_nI (show i + 1 < L by omega) (by omega)
  have d1 : (nI (i + 1)).toNatClampNeg = i + 1 := nI_clamp (by omega)
  have x2 := ix_nI (show i + 2 < L by omega) (by omega)
  have d2 : (nI (i + 2)).toNatClampNeg = i + 2 := nI_clamp (by omega)
  have x3 := ix_nI (show i + 3 < L by omega) (by omega)
  have d3 : (nI (i + 3)).toNatClampNeg = i + 3 := nI_clamp (by omega)
  have x4 := ix_nI (show i + 4 < L by omega) (by omega)
  have d4 : (nI (i + 4)).toNatClampNeg = i + 4 := nI_clamp (by omega)
  have x5 := ix_nI (show i + 5 < L by omega) (by omega)
  have d5 : (nI (i + 5)).toNatClampNeg = i + 5 := nI_clamp (by omega)
  have x6 := ix_nI (show i + 6 < L by omega) (by omega)
  have d6 : (nI (i + 6)).toNatClampNeg = i + 6 := nI_clamp (by omega)
  have hS := I.1.1
  have hj := scr_j I.1.2.2
  by_cases hb : xs (i + 3) = 0
  · simp only [s_L_law_786, s_L_law_786n, s_L_law_787, s_L_law_788, s_L_law_789, s_L_law_790, s_L_law_791, s_L_law_792, s_L_law_793, s_L_law_794, s_L_law_795, s_L_law_796, s_L_law_797, s_L_law_798, s_L_law_799, s_L_law_800, s_L_law_801, s_L_law_802, s_L_law_805, s_L_law_806, s_L_law_809, s_L_law_810, s_L_law_813, s_L_law_813n, s_L_law_814, s_L_law_815, s_L_law_816, s_L_law_817, s_L_law_818, s_L_law_819, s_L_law_820, s_L_law_821, s_L_law_822, s_L_law_823, s_L_law_824, s_L_law_825, s_L_law_826, s_L_law_827, s_L_law_828, s_L_law_829, s_L_law_832, s_L_law_833, s_L_law_836, s_L_law_837, s_L_law_840, s_L_law_843, s_L_law_844, ↓reduceIte, Nat.reduceEqDiff, Nat.reduceLT, am_top, ax_f_some, ax_k_some, ax_k_none, s8_0, s8_1, s8_2, s8_3, s8_4, c2p_n, c2p_i, c2p_r, c2p_z, okvp_i, okvp_l, okvp_r, okvp_n, okvp_z, okvp_z0, okvp_z1, bi_narp, am_nar0p, am_nar1p, bi_0, bi_1, true_and, and_true, hj, nI_k2, nI_k3, nI_k4, nI_k5, nI_k6, nI_1, x1, d1, x2, d2, x3, d3, x4, d4, x5, d5, x6, d6, o_0 hS, hb, not_false_eq_true]
    refine c_known I (xs (i + 1)) (xs (i + 2)) false _ (fun v => ax_k k_L_law 840 [some (.ref 1000000), some (.ref 0), some (.ref 40), some (.int (nI i))] [.int v] Q) (fun v σ1 g1 g2 => ?_) (fun v τ hI hG => ?_)
    · have hj := scr_j g2
      simp only [s_L_law_786, s_L_law_786n, s_L_law_787, s_L_law_788, s_L_law_789, s_L_law_790, s_L_law_791, s_L_law_792, s_L_law_793, s_L_law_794, s_L_law_795, s_L_law_796, s_L_law_797, s_L_law_798, s_L_law_799, s_L_law_800, s_L_law_801, s_L_law_802, s_L_law_805, s_L_law_806, s_L_law_809, s_L_law_810, s_L_law_813, s_L_law_813n, s_L_law_814, s_L_law_815, s_L_law_816, s_L_law_817, s_L_law_818, s_L_law_819, s_L_law_820, s_L_law_821, s_L_law_822, s_L_law_823, s_L_law_824, s_L_law_825, s_L_law_826, s_L_law_827, s_L_law_828, s_L_law_829, s_L_law_832, s_L_law_833, s_L_law_836, s_L_law_837, s_L_law_840, s_L_law_843, s_L_law_844, ↓reduceIte, Nat.reduceEqDiff, Nat.reduceLT, am_top, ax_f_some, ax_k_some, ax_k_none, s8_0, s8_1, s8_2, s8_3, s8_4, c2p_n, c2p_i, c2p_r, c2p_z, okvp_i, okvp_l, okvp_r, okvp_n, okvp_z, okvp_z0, okvp_z1, bi_narp, am_nar0p, am_nar1p, bi_0, bi_1, true_and, and_true, hj, nI_k2, nI_k3, nI_k4, nI_k5, nI_k6, nI_1, x1, d1, x2, d2, x3, d3, x4, d4, x5, d5, x6, d6, o_40 g1, hb, not_false_eq_true]
      try rfl
    · have hq := hQ τ hI hG
      simp only [s_L_law_786, s_L_law_786n, s_L_law_787, s_L_law_788, s_L_law_789, s_L_law_790, s_L_law_791, s_L_law_792, s_L_law_793, s_L_law_794, s_L_law_795, s_L_law_796, s_L_law_797, s_L_law_798, s_L_law_799, s_L_law_800, s_L_law_801, s_L_law_802, s_L_law_805, s_L_law_806, s_L_law_809, s_L_law_810, s_L_law_813, s_L_law_813n, s_L_law_814, s_L_law_815, s_L_law_816, s_L_law_817, s_L_law_818, s_L_law_819, s_L_law_820, s_L_law_821, s_L_law_822, s_L_law_823, s_L_law_824, s_L_law_825, s_L_law_826, s_L_law_827, s_L_law_828, s_L_law_829, s_L_law_832, s_L_law_833, s_L_law_836, s_L_law_837, s_L_law_840, s_L_law_843, s_L_law_844, ↓reduceIte, Nat.reduceEqDiff, Nat.reduceLT, am_top, ax_f_some, ax_k_some, ax_k_none, s8_0, s8_1, s8_2, s8_3, s8_4, c2p_n, c2p_i, c2p_r, c2p_z, okvp_i, okvp_l, okvp_r, okvp_n, okvp_z, okvp_z0, okvp_z1, bi_narp, am_nar0p, am_nar1p, bi_0, bi_1, true_and, and_true]
      exact hq
  · simp only [s_L_law_786, s_L_law_786n, s_L_law_787, s_L_law_788, s_L_law_789, s_L_law_790, s_L_law_791, s_L_law_792, s_L_law_793, s_L_law_794, s_L_law_795, s_L_law_796, s_L_law_797, s_L_law_798, s_L_law_799, s_L_law_800, s_L_law_801, s_L_law_802, s_L_law_805, s_L_law_806, s_L_law_809, s_L_law_810, s_L_law_813, s_L_law_813n, s_L_law_814, s_L_law_815, s_L_law_816, s_L_law_817, s_L_law_818, s_L_law_819, s_L_law_820, s_L_law_821, s_L_law_822, s_L_law_823, s_L_law_824, s_L_law_825, s_L_law_826, s_L_law_827, s_L_law_828, s_L_law_829, s_L_law_832, s_L_law_833, s_L_law_836, s_L_law_837, s_L_law_840, s_L_law_843, s_L_law_844, ↓reduceIte, Nat.reduceEqDiff, Nat.reduceLT, am_top, ax_f_some, ax_k_some, ax_k_none, s8_0, s8_1, s8_2, s8_3, s8_4, c2p_n, c2p_i, c2p_r, c2p_z, okvp_i, okvp_l, okvp_r, okvp_n, okvp_z, okvp_z0, okvp_z1, bi_narp, am_nar0p, am_nar1p, bi_0, bi_1, true_and, and_true, hj, nI_k2, nI_k3, nI_k4, nI_k5, nI_k6, nI_1, x1, d1, x2, d2, x3, d3, x4, d4, x5, d5, x6, d6, o_0 hS, hb, not_false_eq_true]
    refine c_known I (xs (i + 1)) (xs (i + 2)) true _ (fun v => ax_k k_L_law 840 [some (.ref 1000000), some (.ref 0), some (.ref 40), some (.int (nI i))] [.int v] Q) (fun v σ1 g1 g2 => ?_) (fun v τ hI hG => ?_)
    · have hj := scr_j g2
      simp only [s_L_law_786, s_L_law_786n, s_L_law_787, s_L_law_788, s_L_law_789, s_L_law_790, s_L_law_791, s_L_law_792, s_L_law_793, s_L_law_794, s_L_law_795, s_L_law_796, s_L_law_797, s_L_law_798, s_L_law_799, s_L_law_800, s_L_law_801, s_L_law_802, s_L_law_805, s_L_law_806, s_L_law_809, s_L_law_810, s_L_law_813, s_L_law_813n, s_L_law_814, s_L_law_815, s_L_law_816, s_L_law_817, s_L_law_818, s_L_law_819, s_L_law_820, s_L_law_821, s_L_law_822, s_L_law_823, s_L_law_824, s_L_law_825, s_L_law_826, s_L_law_827, s_L_law_828, s_L_law_829, s_L_law_832, s_L_law_833, s_L_law_836, s_L_law_837, s_L_law_840, s_L_law_843, s_L_law_844, ↓reduceIte, Nat.reduceEqDiff, Nat.reduceLT, am_top, ax_f_some, ax_k_some, ax_k_none, s8_0, s8_1, s8_2, s8_3, s8_4, c2p_n, c2p_i, c2p_r, c2p_z, okvp_i, okvp_l, okvp_r, okvp_n, okvp_z, okvp_z0, okvp_z1, bi_narp, am_nar0p, am_nar1p, bi_0, bi_1, true_and, and_true, hj, nI_k2, nI_k3, nI_k4, nI_k5, nI_k6, nI_1, x1, d1, x2, d2, x3, d3, x4, d4, x5, d5, x6, d6, o_40 g1, hb, not_false_eq_true]
      try rfl
    · have hq := hQ τ hI hG
      simp only [s_L_law_786, s_L_law_786n, s_L_law_787, s_L_law_788, s_L_law_789, s_L_law_790, s_L_law_791, s_L_law_792, s_L_law_793, s_L_law_794, s_L_law_795, s_L_law_796, s_L_law_797, s_L_law_798, s_L_law_799, s_L_law_800, s_L_law_801, s_L_law_802, s_L_law_805, s_L_law_806, s_L_law_809, s_L_law_810, s_L_law_813, s_L_law_813n, s_L_law_814, s_L_law_815, s_L_law_816, s_L_law_817, s_L_law_818, s_L_law_819, s_L_law_820, s_L_law_821, s_L_law_822, s_L_law_823, s_L_law_824, s_L_law_825, s_L_law_826, s_L_law_827, s_L_law_828, s_L_law_829, s_L_law_832, s_L_law_833, s_L_law_836, s_L_law_837, s_L_law_840, s_L_law_843, s_L_law_844, ↓reduceIte, Nat.reduceEqDiff, Nat.reduceLT, am_top, ax_f_some, ax_k_some, ax_k_none, s8_0, s8_1, s8_2, s8_3, s8_4, c2p_n, c2p_i, c2p_r, c2p_z, okvp_i, okvp_l, okvp_r, okvp_n, okvp_z, okvp_z0, okvp_z1, bi_narp, am_nar0p, am_nar1p, bi_0, bi_1, true_and, and_true]
      exact hq
theorem l_feed (I : INV L xs σ) (hi : i + 7 ≤ L) (hL : L ≤ 3584) (hQ : ∀ τ, INV L xs τ → Gr σ τ → ax k_L_law 1390 [some (.ref 1000000), some (.ref 0), some (.ref 40), some (.int (nI i))] [] τ Q) : ax k_L_law 845 [some (.ref 1000000), some (.ref 0), some (.ref 40), some (.int (nI i))] [] σ Q := by
  have x1 := ix_nI (show i + 1 < L by omega) (by omega)
  have d1 : (nI (i + 1)).toNatClampNeg = i + 1 := nI_clamp (by omega)
  have x2 := ix_nI (show i + 2 < L by omega) (by omega)
  have d2 : (nI (i + 2)).toNatClampNeg = i + 2 := nI_clamp (by omega)
  have x3 := ix_nI (show i + 3 < L by omega) (by omega)
  have d3 : (nI (i + 3)).toNatClampNeg = i + 3 := nI_clamp (by omega)
  have x4 := ix_nI (show i + 4 < L by omega) (by omega)
  have d4 : (nI (i + 4)).toNatClampNeg = i + 4 := nI_clamp (by omega)
  have x5 := ix_nI (show i + 5 < L by omega) (by omega)
  have d5 : (nI (i + 5)).toNatClampNeg = i + 5 := nI_clamp (by omega)
  have x6 := ix_nI (show i + 6 < L by omega) (by omega)
  have d6 : (nI (i + 6)).toNatClampNeg = i + 6 := nI_clamp (by omega)
  have hS := I.1.1
  have hj := scr_j I.1.2.2
  simp only [s_L_law_845, s_L_law_845n, s_L_law_846, s_L_law_847, s_L_law_848, s_L_law_849, s_L_law_850, s_L_law_851, s_L_law_852, s_L_law_853, s_L_law_854, s_L_law_855, s_L_law_856, s_L_law_857, s_L_law_858, s_L_law_859, s_L_law_860, s_L_law_861, s_L_law_862, s_L_law_863, s_L_law_864, s_L_law_865, s_L_law_866, s_L_law_867, s_L_law_868, s_L_law_869, s_L_law_870, s_L_law_871, s_L_law_874, s_L_law_874n, s_L_law_875, s_L_law_876, s_L_law_877, s_L_law_878, s_L_law_879, s_L_law_880, s_L_law_881, s_L_law_882, s_L_law_883, s_L_law_884, s_L_law_885, s_L_law_886, s_L_law_887, s_L_law_888, s_L_law_889, s_L_law_890, s_L_law_891, s_L_law_892, s_L_law_893, s_L_law_894, s_L_law_895, s_L_law_896, s_L_law_897, s_L_law_898, s_L_law_899, s_L_law_900, s_L_law_903, s_L_law_906, s_L_law_907, ↓reduceIte, Nat.reduceEqDiff, Nat.reduceLT, am_top, ax_f_some, ax_k_some, ax_k_none, s8_0, s8_1, s8_2, s8_3, s8_4, c2p_n, c2p_i, c2p_r, c2p_z, okvp_i, okvp_l, okvp_r, okvp_n, okvp_z, okvp_z0, okvp_z1, bi_narp, am_nar0p, am_nar1p, bi_0, bi_1, true_and, and_true, hj, nI_k2, nI_k3, nI_k4, nI_k5, nI_k6, nI_1, x1, d1, x2, d2, x3, d3, x4, d4, x5, d5, x6, d6, o_0 hS]
  refine c_feed I (xs (i + 1)) (xs (i + 2)) (xs (i + 3)) (xs (i + 4)) (xs (i + 5)) _ (fun v => ax_k k_L_law 903 [some (.ref 1000000), some (.ref 0), some (.ref 40), some (.int (nI i))] [.int v] Q) (fun v σ1 g1 g2 => ?_) (fun v τ hI hG => ?_)
  · have hj := scr_j g2
    simp only [s_L_law_845, s_L_law_845n, s_L_law_846, s_L_law_847, s_L_law_848, s_L_law_849, s_L_law_850, s_L_law_851, s_L_law_852, s_L_law_853, s_L_law_854, s_L_law_855, s_L_law_856, s_L_law_857, s_L_law_858, s_L_law_859, s_L_law_860, s_L_law_861, s_L_law_862, s_L_law_863, s_L_law_864, s_L_law_865, s_L_law_866, s_L_law_867, s_L_law_868, s_L_law_869, s_L_law_870, s_L_law_871, s_L_law_874, s_L_law_874n, s_L_law_875, s_L_law_876, s_L_law_877, s_L_law_878, s_L_law_879, s_L_law_880, s_L_law_881, s_L_law_882, s_L_law_883, s_L_law_884, s_L_law_885, s_L_law_886, s_L_law_887, s_L_law_888, s_L_law_889, s_L_law_890, s_L_law_891, s_L_law_892, s_L_law_893, s_L_law_894, s_L_law_895, s_L_law_896, s_L_law_897, s_L_law_898, s_L_law_899, s_L_law_900, s_L_law_903, s_L_law_906, s_L_law_907, ↓reduceIte, Nat.reduceEqDiff, Nat.reduceLT, am_top, ax_f_some, ax_k_some, ax_k_none, s8_0, s8_1, s8_2, s8_3, s8_4, c2p_n, c2p_i, c2p_r, c2p_z, okvp_i, okvp_l, okvp_r, okvp_n, okvp_z, okvp_z0, okvp_z1, bi_narp, am_nar0p, am_nar1p, bi_0, bi_1, true_and, and_true, hj, nI_k2, nI_k3, nI_k4, nI_k5, nI_k6, nI_1, x1, d1, x2, d2, x3, d3, x4, d4, x5, d5, x6, d6, o_40 g1]
  · have hq := hQ τ hI hG
    simp only [s_L_law_845, s_L_law_845n, s_L_law_846, s_L_law_847, s_L_law_848, s_L_law_849, s_L_law_850, s_L_law_851, s_L_law_852, s_L_law_853, s_L_law_854, s_L_law_855, s_L_law_856, s_L_law_857, s_L_law_858, s_L_law_859, s_L_law_860, s_L_law_861, s_L_law_862, s_L_law_863, s_L_law_864, s_L_law_865, s_L_law_866, s_L_law_867, s_L_law_868, s_L_law_869, s_L_law_870, s_L_law_871, s_L_law_874, s_L_law_874n, s_L_law_875, s_L_law_876, s_L_law_877, s_L_law_878, s_L_law_879, s_L_law_880, s_L_law_881, s_L_law_882, s_L_law_883, s_L_law_884, s_L_law_885, s_L_law_886, s_L_law_887, s_L_law_888, s_L_law_889, s_L_law_890, s_L_law_891, s_L_law_892, s_L_law_893, s_L_law_894, s_L_law_895, s_L_law_896, s_L_law_897, s_L_law_898, s_L_law_899, s_L_law_900, s_L_law_903, s_L_law_906, s_L_law_907, ↓reduceIte, Nat.reduceEqDiff, Nat.reduceLT, am_top, ax_f_some, ax_k_some, ax_k_none, s8_0, s8_1, s8_2, s8_3, s8_4, c2p_n, c2p_i, c2p_r, c2p_z, okvp_i, okvp_l, okvp_r, okvp_n, okvp_z, okvp_z0, okvp_z1, bi_narp, am_nar0p, am_nar1p, bi_0, bi_1, true_and, and_true]
    exact hq
theorem l_end (I : INV L xs σ) (hi : i + 7 ≤ L) (hL : L ≤ 3584) (hQ : ∀ τ, INV L xs τ → Gr σ τ → ax k_L_law 1390 [some (.ref 1000000), some (.ref 0), some (.ref 40), some (.int (nI i))] [] τ Q) : ax k_L_law 908 [some (.ref 1000000), some (.ref 0), some (.ref 40), some (.int (nI i))] [] σ Q := by
  have x1 := ix_nI (show i + 1 < L by omega) (by omega)
  have d1 : (nI (i + 1)).toNatClampNeg = i + 1 := nI_clamp (by omega)
  have x2 := ix_nI (show i + 2 < L by omega) (by omega)
  have d2 : (nI (i + 2)).toNatClampNeg = i + 2 := nI_clamp (by omega)
  have x3 := ix_nI (show i + 3 < L by omega) (by omega)
  have d3 : (nI (i + 3)).toNatClampNeg = i + 3 := nI_clamp (by omega)
  have x4 := ix_nI (show i + 4 < L by omega) (by omega)
  have d4 : (nI (i + 4)).toNatClampNeg = i + 4 := nI_clamp (by omega)
  have x5 := ix_nI (show i + 5 < L by omega) (by omega)
  have d5 : (nI (i + 5)).toNatClampNeg = i + 5 := nI_clamp (by omega)
  have x6 := ix_nI (show i + 6 < L by omega) (by omega)
  have d6 : (nI (i + 6)).toNatClampNeg = i + 6 := nI_clamp (by omega)
  have hS := I.1.1
  have hj := scr_j I.1.2.2
  simp only [s_L_law_908, s_L_law_908n, s_L_law_909, s_L_law_910, s_L_law_911, s_L_law_912, s_L_law_913, s_L_law_914, s_L_law_917, s_L_law_917n, s_L_law_918, s_L_law_919, s_L_law_920, s_L_law_921, s_L_law_922, s_L_law_923, s_L_law_926, s_L_law_929, s_L_law_930, ↓reduceIte, Nat.reduceEqDiff, Nat.reduceLT, am_top, ax_f_some, ax_k_some, ax_k_none, s8_0, s8_1, s8_2, s8_3, s8_4, c2p_n, c2p_i, c2p_r, c2p_z, okvp_i, okvp_l, okvp_r, okvp_n, okvp_z, okvp_z0, okvp_z1, bi_narp, am_nar0p, am_nar1p, bi_0, bi_1, true_and, and_true, hj, nI_k2, nI_k3, nI_k4, nI_k5, nI_k6, nI_1, x1, d1, x2, d2, x3, d3, x4, d4, x5, d5, x6, d6, o_0 hS]
  refine c_end I (xs (i + 1)) _ (fun v => ax_k k_L_law 926 [some (.ref 1000000), some (.ref 0), some (.ref 40), some (.int (nI i))] [.int v] Q) (fun v σ1 g1 g2 => ?_) (fun v τ hI hG => ?_)
  · have hj := scr_j g2
    simp only [s_L_law_908, s_L_law_908n, s_L_law_909, s_L_law_910, s_L_law_911, s_L_law_912, s_L_law_913, s_L_law_914, s_L_law_917, s_L_law_917n, s_L_law_918, s_L_law_919, s_L_law_920, s_L_law_921, s_L_law_922, s_L_law_923, s_L_law_926, s_L_law_929, s_L_law_930, ↓reduceIte, Nat.reduceEqDiff, Nat.reduceLT, am_top, ax_f_some, ax_k_some, ax_k_none, s8_0, s8_1, s8_2, s8_3, s8_4, c2p_n, c2p_i, c2p_r, c2p_z, okvp_i, okvp_l, okvp_r, okvp_n, okvp_z, okvp_z0, okvp_z1, bi_narp, am_nar0p, am_nar1p, bi_0, bi_1, true_and, and_true, hj, nI_k2, nI_k3, nI_k4, nI_k5, nI_k6, nI_1, x1, d1, x2, d2, x3, d3, x4, d4, x5, d5, x6, d6, o_40 g1]
  · have hq := hQ τ hI hG
    simp only [s_L_law_908, s_L_law_908n, s_L_law_909, s_L_law_910, s_L_law_911, s_L_law_912, s_L_law_913, s_L_law_914, s_L_law_917, s_L_law_917n, s_L_law_918, s_L_law_919, s_L_law_920, s_L_law_921, s_L_law_922, s_L_law_923, s_L_law_926, s_L_law_929, s_L_law_930, ↓reduceIte, Nat.reduceEqDiff, Nat.reduceLT, am_top, ax_f_some, ax_k_some, ax_k_none, s8_0, s8_1, s8_2, s8_3, s8_4, c2p_n, c2p_i, c2p_r, c2p_z, okvp_i, okvp_l, okvp_r, okvp_n, okvp_z, okvp_z0, okvp_z1, bi_narp, am_nar0p, am_nar1p, bi_0, bi_1, true_and, and_true]
    exact hq
theorem l_text (I : INV L xs σ) (hT : σ.1 < am_top) (hi : i + 7 ≤ L) (hL : L ≤ 3584) (hQ : ∀ τ, INV L xs τ → Gr σ τ → ax k_L_law 1390 [some (.ref 1000000), some (.ref 0), some (.ref 40), some (.int (nI i))] [] τ Q) : ax k_L_law 931 [some (.ref 1000000), some (.ref 0), some (.ref 40), some (.int (nI i))] [] σ Q := by
  have x1 := ix_nI (show i + 1 < L by omega) (by omega)
  have d1 : (nI (i + 1)).toNatClampNeg = i + 1 := nI_clamp (by omega)
  have x2 := ix_nI (show i + 2 < L by omega) (by omega)
  have d2 : (nI (i + 2)).toNatClampNeg = i + 2 := nI_clamp (by omega)
  have x3 := ix_nI (show i + 3 < L by omega) (by omega)
  have d3 : (nI (i + 3)).toNatClampNeg = i + 3 := nI_clamp (by omega)
  have x4 := ix_nI (show i + 4 < L by omega) (by omega)
  have d4 : (nI (i + 4)).toNatClampNeg = i + 4 := nI_clamp (by omega)
  have x5 := ix_nI (show i + 5 < L by omega) (by omega)
  have d5 : (nI (i + 5)).toNatClampNeg = i + 5 := nI_clamp (by omega)
  have x6 := ix_nI (show i + 6 < L by omega) (by omega)
  have d6 : (nI (i + 6)).toNatClampNeg = i + 6 := nI_clamp (by omega)
  have hS := I.1.1
  have hj := scr_j I.1.2.2
  simp only [s_L_law_931, s_L_law_931n, s_L_law_932, s_L_law_933, s_L_law_934, s_L_law_935, s_L_law_936, s_L_law_937, s_L_law_940, s_L_law_940n, s_L_law_941, s_L_law_942, s_L_law_943, s_L_law_944, s_L_law_945, s_L_law_946, s_L_law_949, s_L_law_952, s_L_law_953, ↓reduceIte, Nat.reduceEqDiff, Nat.reduceLT, am_top, ax_f_some, ax_k_some, ax_k_none, s8_0, s8_1, s8_2, s8_3, s8_4, c2p_n, c2p_i, c2p_r, c2p_z, okvp_i, okvp_l, okvp_r, okvp_n, okvp_z, okvp_z0, okvp_z1, bi_narp, am_nar0p, am_nar1p, bi_0, bi_1, true_and, and_true, hj, nI_k2, nI_k3, nI_k4, nI_k5, nI_k6, nI_1, x1, d1, x2, d2, x3, d3, x4, d4, x5, d5, x6, d6, o_0 hS]
  refine c_text I hT (xs (i + 1)) _ (fun v => ax_k k_L_law 949 [some (.ref 1000000), some (.ref 0), some (.ref 40), some (.int (nI i))] [.int v] Q) (fun v σ1 g1 g2 => ?_) (fun v τ hI hG => ?_)
  · have hj := scr_j g2
    simp only [s_L_law_931, s_L_law_931n, s_L_law_932, s_L_law_933, s_L_law_934, s_L_law_935, s_L_law_936, s_L_law_937, s_L_law_940, s_L_law_940n, s_L_law_941, s_L_law_942, s_L_law_943, s_L_law_944, s_L_law_945, s_L_law_946, s_L_law_949, s_L_law_952, s_L_law_953, ↓reduceIte, Nat.reduceEqDiff, Nat.reduceLT, am_top, ax_f_some, ax_k_some, ax_k_none, s8_0, s8_1, s8_2, s8_3, s8_4, c2p_n, c2p_i, c2p_r, c2p_z, okvp_i, okvp_l, okvp_r, okvp_n, okvp_z, okvp_z0, okvp_z1, bi_narp, am_nar0p, am_nar1p, bi_0, bi_1, true_and, and_true, hj, nI_k2, nI_k3, nI_k4, nI_k5, nI_k6, nI_1, x1, d1, x2, d2, x3, d3, x4, d4, x5, d5, x6, d6, o_40 g1]
  · have hq := hQ τ hI hG
    simp only [s_L_law_931, s_L_law_931n, s_L_law_932, s_L_law_933, s_L_law_934, s_L_law_935, s_L_law_936, s_L_law_937, s_L_law_940, s_L_law_940n, s_L_law_941, s_L_law_942, s_L_law_943, s_L_law_944, s_L_law_945, s_L_law_946, s_L_law_949, s_L_law_952, s_L_law_953, ↓reduceIte, Nat.reduceEqDiff, Nat.reduceLT, am_top, ax_f_some, ax_k_some, ax_k_none, s8_0, s8_1, s8_2, s8_3, s8_4, c2p_n, c2p_i, c2p_r, c2p_z, okvp_i, okvp_l, okvp_r, okvp_n, okvp_z, okvp_z0, okvp_z1, bi_narp, am_nar0p, am_nar1p, bi_0, bi_1, true_and, and_true]
    exact hq
theorem l_fault (I : INV L xs σ) (hi : i + 7 ≤ L) (hL : L ≤ 3584) (hQ : ∀ τ, INV L xs τ → Gr σ τ → ax k_L_law 1390 [some (.ref 1000000), some (.ref 0), some (.ref 40), some (.int (nI i))] [] τ Q) : ax k_L_law 954 [some (.ref 1000000), some (.ref 0), some (.ref 40), some (.int (nI i))] [] σ Q := by
  have x1 := ix_nI (show i + 1 < L by omega) (by omega)
  have d1 : (nI (i + 1)).toNatClampNeg = i + 1 := nI_clamp (by omega)
  have x2 := ix_nI (show i + 2 < L by omega) (by omega)
  have d2 : (nI (i + 2)).toNatClampNeg = i + 2 := nI_clamp (by omega)
  have x3 := ix_nI (show i + 3 < L by omega) (by omega)
  have d3 : (nI (i + 3)).toNatClampNeg = i + 3 := nI_clamp (by omega)
  have x4 := ix_nI (show i + 4 < L by omega) (by omega)
  have d4 : (nI (i + 4)).toNatClampNeg = i + 4 := nI_clamp (by omega)
  have x5 := ix_nI (show i + 5 < L by omega) (by omega)
  have d5 : (nI (i + 5)).toNatClampNeg = i + 5 := nI_clamp (by omega)
  have x6 := ix_nI (show i + 6 < L by omega) (by omega)
  have d6 : (nI (i + 6)).toNatClampNeg = i + 6 := nI_clamp (by omega)
  have hS := I.1.1
  have hj := scr_j I.1.2.2
  simp only [s_L_law_954, s_L_law_954n, s_L_law_955, s_L_law_956, s_L_law_957, s_L_law_958, s_L_law_959, s_L_law_960, s_L_law_963, s_L_law_963n, s_L_law_964, s_L_law_965, s_L_law_966, s_L_law_967, s_L_law_968, s_L_law_969, s_L_law_972, s_L_law_975, s_L_law_976, ↓reduceIte, Nat.reduceEqDiff, Nat.reduceLT, am_top, ax_f_some, ax_k_some, ax_k_none, s8_0, s8_1, s8_2, s8_3, s8_4, c2p_n, c2p_i, c2p_r, c2p_z, okvp_i, okvp_l, okvp_r, okvp_n, okvp_z, okvp_z0, okvp_z1, bi_narp, am_nar0p, am_nar1p, bi_0, bi_1, true_and, and_true, hj, nI_k2, nI_k3, nI_k4, nI_k5, nI_k6, nI_1, x1, d1, x2, d2, x3, d3, x4, d4, x5, d5, x6, d6, o_0 hS]
  refine c_fault I (xs (i + 1)) _ (fun v => ax_k k_L_law 972 [some (.ref 1000000), some (.ref 0), some (.ref 40), some (.int (nI i))] [.int v] Q) (fun v σ1 g1 g2 => ?_) (fun v τ hI hG => ?_)
  · have hj := scr_j g2
    simp only [s_L_law_954, s_L_law_954n, s_L_law_955, s_L_law_956, s_L_law_957, s_L_law_958, s_L_law_959, s_L_law_960, s_L_law_963, s_L_law_963n, s_L_law_964, s_L_law_965, s_L_law_966, s_L_law_967, s_L_law_968, s_L_law_969, s_L_law_972, s_L_law_975, s_L_law_976, ↓reduceIte, Nat.reduceEqDiff, Nat.reduceLT, am_top, ax_f_some, ax_k_some, ax_k_none, s8_0, s8_1, s8_2, s8_3, s8_4, c2p_n, c2p_i, c2p_r, c2p_z, okvp_i, okvp_l, okvp_r, okvp_n, okvp_z, okvp_z0, okvp_z1, bi_narp, am_nar0p, am_nar1p, bi_0, bi_1, true_and, and_true, hj, nI_k2, nI_k3, nI_k4, nI_k5, nI_k6, nI_1, x1, d1, x2, d2, x3, d3, x4, d4, x5, d5, x6, d6, o_40 g1]
  · have hq := hQ τ hI hG
    simp only [s_L_law_954, s_L_law_954n, s_L_law_955, s_L_law_956, s_L_law_957, s_L_law_958, s_L_law_959, s_L_law_960, s_L_law_963, s_L_law_963n, s_L_law_964, s_L_law_965, s_L_law_966, s_L_law_967, s_L_law_968, s_L_law_969, s_L_law_972, s_L_law_975, s_L_law_976, ↓reduceIte, Nat.reduceEqDiff, Nat.reduceLT, am_top, ax_f_some, ax_k_some, ax_k_none, s8_0, s8_1, s8_2, s8_3, s8_4, c2p_n, c2p_i, c2p_r, c2p_z, okvp_i, okvp_l, okvp_r, okvp_n, okvp_z, okvp_z0, okvp_z1, bi_narp, am_nar0p, am_nar1p, bi_0, bi_1, true_and, and_true]
    exact hq
theorem l_why (I : INV L xs σ) (hi : i + 7 ≤ L) (hL : L ≤ 3584) (hQ : ∀ τ, INV L xs τ → Gr σ τ → ax k_L_law 1390 [some (.ref 1000000), some (.ref 0), some (.ref 40), some (.int (nI i))] [] τ Q) : ax k_L_law 977 [some (.ref 1000000), some (.ref 0), some (.ref 40), some (.int (nI i))] [] σ Q := by
  have x1 := ix_nI (show i + 1 < L by omega) (by omega)
  have d1 : (nI (i + 1)).toNatClampNeg = i + 1 := nI_clamp (by omega)
  have x2 := ix_nI (show i + 2 < L by omega) (by omega)
  have d2 : (nI (i + 2)).toNatClampNeg = i + 2 := nI_clamp (by omega)
  have x3 := ix_nI (show i + 3 < L by omega) (by omega)
  have d3 : (nI (i + 3)).toNatClampNeg = i + 3 := nI_clamp (by omega)
  have x4 := ix_nI (show i + 4 < L by omega) (by omega)
  have d4 : (nI (i + 4)).toNatClampNeg = i + 4 := nI_clamp (by omega)
  have x5 := ix_nI (show i + 5 < L by omega) (by omega)
  have d5 : (nI (i + 5)).toNatClampNeg = i + 5 := nI_clamp (by omega)
  have x6 := ix_nI (show i + 6 < L by omega) (by omega)
  have d6 : (nI (i + 6)).toNatClampNeg = i + 6 := nI_clamp (by omega)
  have hS := I.1.1
  have hj := scr_j I.1.2.2
  simp only [s_L_law_977, s_L_law_977n, s_L_law_978, s_L_law_979, s_L_law_980, s_L_law_981, s_L_law_982, s_L_law_983, s_L_law_984, s_L_law_985, s_L_law_986, s_L_law_987, s_L_law_988, s_L_law_989, s_L_law_990, s_L_law_991, s_L_law_992, s_L_law_993, s_L_law_994, s_L_law_995, s_L_law_996, s_L_law_997, s_L_law_998, s_L_law_999, s_L_law_1000, s_L_law_1001, s_L_law_1002, s_L_law_1003, s_L_law_1006, s_L_law_1006n, s_L_law_1007, s_L_law_1008, s_L_law_1009, s_L_law_1010, s_L_law_1011, s_L_law_1012, s_L_law_1013, s_L_law_1014, s_L_law_1015, s_L_law_1016, s_L_law_1017, s_L_law_1018, s_L_law_1019, s_L_law_1020, s_L_law_1021, s_L_law_1022, s_L_law_1023, s_L_law_1024, s_L_law_1025, s_L_law_1026, s_L_law_1027, s_L_law_1028, s_L_law_1029, s_L_law_1030, s_L_law_1031, s_L_law_1032, s_L_law_1035, s_L_law_1038, s_L_law_1039, ↓reduceIte, Nat.reduceEqDiff, Nat.reduceLT, am_top, ax_f_some, ax_k_some, ax_k_none, s8_0, s8_1, s8_2, s8_3, s8_4, c2p_n, c2p_i, c2p_r, c2p_z, okvp_i, okvp_l, okvp_r, okvp_n, okvp_z, okvp_z0, okvp_z1, bi_narp, am_nar0p, am_nar1p, bi_0, bi_1, true_and, and_true, hj, nI_k2, nI_k3, nI_k4, nI_k5, nI_k6, nI_1, x1, d1, x2, d2, x3, d3, x4, d4, x5, d5, x6, d6, o_0 hS]
  refine c_why I (xs (i + 1)) (xs (i + 2)) (xs (i + 3)) (xs (i + 4)) (xs (i + 5)) _ (fun v => ax_k k_L_law 1035 [some (.ref 1000000), some (.ref 0), some (.ref 40), some (.int (nI i))] [.int v] Q) (fun v σ1 g1 g2 => ?_) (fun v τ hI hG => ?_)
  · have hj := scr_j g2
    simp only [s_L_law_977, s_L_law_977n, s_L_law_978, s_L_law_979, s_L_law_980, s_L_law_981, s_L_law_982, s_L_law_983, s_L_law_984, s_L_law_985, s_L_law_986, s_L_law_987, s_L_law_988, s_L_law_989, s_L_law_990, s_L_law_991, s_L_law_992, s_L_law_993, s_L_law_994, s_L_law_995, s_L_law_996, s_L_law_997, s_L_law_998, s_L_law_999, s_L_law_1000, s_L_law_1001, s_L_law_1002, s_L_law_1003, s_L_law_1006, s_L_law_1006n, s_L_law_1007, s_L_law_1008, s_L_law_1009, s_L_law_1010, s_L_law_1011, s_L_law_1012, s_L_law_1013, s_L_law_1014, s_L_law_1015, s_L_law_1016, s_L_law_1017, s_L_law_1018, s_L_law_1019, s_L_law_1020, s_L_law_1021, s_L_law_1022, s_L_law_1023, s_L_law_1024, s_L_law_1025, s_L_law_1026, s_L_law_1027, s_L_law_1028, s_L_law_1029, s_L_law_1030, s_L_law_1031, s_L_law_1032, s_L_law_1035, s_L_law_1038, s_L_law_1039, ↓reduceIte, Nat.reduceEqDiff, Nat.reduceLT, am_top, ax_f_some, ax_k_some, ax_k_none, s8_0, s8_1, s8_2, s8_3, s8_4, c2p_n, c2p_i, c2p_r, c2p_z, okvp_i, okvp_l, okvp_r, okvp_n, okvp_z, okvp_z0, okvp_z1, bi_narp, am_nar0p, am_nar1p, bi_0, bi_1, true_and, and_true, hj, nI_k2, nI_k3, nI_k4, nI_k5, nI_k6, nI_1, x1, d1, x2, d2, x3, d3, x4, d4, x5, d5, x6, d6, o_40 g1]
  · have hq := hQ τ hI hG
    simp only [s_L_law_977, s_L_law_977n, s_L_law_978, s_L_law_979, s_L_law_980, s_L_law_981, s_L_law_982, s_L_law_983, s_L_law_984, s_L_law_985, s_L_law_986, s_L_law_987, s_L_law_988, s_L_law_989, s_L_law_990, s_L_law_991, s_L_law_992, s_L_law_993, s_L_law_994, s_L_law_995, s_L_law_996, s_L_law_997, s_L_law_998, s_L_law_999, s_L_law_1000, s_L_law_1001, s_L_law_1002, s_L_law_1003, s_L_law_1006, s_L_law_1006n, s_L_law_1007, s_L_law_1008, s_L_law_1009, s_L_law_1010, s_L_law_1011, s_L_law_1012, s_L_law_1013, s_L_law_1014, s_L_law_1015, s_L_law_1016, s_L_law_1017, s_L_law_1018, s_L_law_1019, s_L_law_1020, s_L_law_1021, s_L_law_1022, s_L_law_1023, s_L_law_1024, s_L_law_1025, s_L_law_1026, s_L_law_1027, s_L_law_1028, s_L_law_1029, s_L_law_1030, s_L_law_1031, s_L_law_1032, s_L_law_1035, s_L_law_1038, s_L_law_1039, ↓reduceIte, Nat.reduceEqDiff, Nat.reduceLT, am_top, ax_f_some, ax_k_some, ax_k_none, s8_0, s8_1, s8_2, s8_3, s8_4, c2p_n, c2p_i, c2p_r, c2p_z, okvp_i, okvp_l, okvp_r, okvp_n, okvp_z, okvp_z0, okvp_z1, bi_narp, am_nar0p, am_nar1p, bi_0, bi_1, true_and, and_true]
    exact hq
theorem l_by (I : INV L xs σ) (hi : i + 7 ≤ L) (hL : L ≤ 3584) (hQ : ∀ τ, INV L xs τ → Gr σ τ → ax k_L_law 1390 [some (.ref 1000000), some (.ref 0), some (.ref 40), some (.int (nI i))] [] τ Q) : ax k_L_law 1040 [some (.ref 1000000), some (.ref 0), some (.ref 40), some (.int (nI i))] [] σ Q := by
  have x1 := ix_nI (show i + 1 < L by omega) (by omega)
  have d1 : (nI (i + 1)).toNatClampNeg = i + 1 := nI_clamp (by omega)
  have x2 := ix_nI (show i + 2 < L by omega) (by omega)
  have d2 : (nI (i + 2)).toNatClampNeg = i + 2 := nI_clamp (by omega)
  have x3 := ix_nI (show i + 3 < L by omega) (by omega)
  have d3 : (nI (i + 3)).toNatClampNeg = i + 3 := nI_clamp (by omega)
  have x4 := ix_nI (show i + 4 < L by omega) (by omega)
  have d4 : (nI (i + 4)).toNatClampNeg = i + 4 := nI_clamp (by omega)
  have x5 := ix_nI (show i + 5 < L by omega) (by omega)
  have d5 : (nI (i + 5)).toNatClampNeg = i + 5 := nI_clamp (by omega)
  have x6 := ix_nI (show i + 6 < L by omega) (by omega)
  have d6 : (nI (i + 6)).toNatClampNeg = i + 6 := nI_clamp (by omega)
  have hS := I.1.1
  have hj := scr_j I.1.2.2
  simp only [s_L_law_1040, s_L_law_1040n, s_L_law_1041, s_L_law_1042, s_L_law_1043, s_L_law_1044, s_L_law_1045, s_L_law_1046, s_L_law_1047, s_L_law_1048, s_L_law_1049, s_L_law_1050, s_L_law_1051, s_L_law_1052, s_L_law_1053, s_L_law_1054, s_L_law_1055, s_L_law_1056, s_L_law_1057, s_L_law_1058, s_L_law_1059, s_L_law_1060, s_L_law_1061, s_L_law_1062, s_L_law_1063, s_L_law_1064, s_L_law_1065, s_L_law_1066, s_L_law_1069, s_L_law_1069n, s_L_law_1070, s_L_law_1071, s_L_law_1072, s_L_law_1073, s_L_law_1074, s_L_law_1075, s_L_law_1076, s_L_law_1077, s_L_law_1078, s_L_law_1079, s_L_law_1080, s_L_law_1081, s_L_law_1082, s_L_law_1083, s_L_law_1084, s_L_law_1085, s_L_law_1086, s_L_law_1087, s_L_law_1088, s_L_law_1089, s_L_law_1090, s_L_law_1091, s_L_law_1092, s_L_law_1093, s_L_law_1094, s_L_law_1095, s_L_law_1098, s_L_law_1101, s_L_law_1102, ↓reduceIte, Nat.reduceEqDiff, Nat.reduceLT, am_top, ax_f_some, ax_k_some, ax_k_none, s8_0, s8_1, s8_2, s8_3, s8_4, c2p_n, c2p_i, c2p_r, c2p_z, okvp_i, okvp_l, okvp_r, okvp_n, okvp_z, okvp_z0, okvp_z1, bi_narp, am_nar0p, am_nar1p, bi_0, bi_1, true_and, and_true, hj, nI_k2, nI_k3, nI_k4, nI_k5, nI_k6, nI_1, x1, d1, x2, d2, x3, d3, x4, d4, x5, d5, x6, d6, o_0 hS]
  refine c_by I (xs (i + 1)) (xs (i + 2)) (xs (i + 3)) (xs (i + 4)) (xs (i + 5)) _ (fun v => ax_k k_L_law 1098 [some (.ref 1000000), some (.ref 0), some (.ref 40), some (.int (nI i))] [.int v] Q) (fun v σ1 g1 g2 => ?_) (fun v τ hI hG => ?_)
  · have hj := scr_j g2
    simp only [s_L_law_1040, s_L_law_1040n, s_L_law_1041, s_L_law_1042, s_L_law_1043, s_L_law_1044, s_L_law_1045, s_L_law_1046, s_L_law_1047, s_L_law_1048, s_L_law_1049, s_L_law_1050, s_L_law_1051, s_L_law_1052, s_L_law_1053, s_L_law_1054, s_L_law_1055, s_L_law_1056, s_L_law_1057, s_L_law_1058, s_L_law_1059, s_L_law_1060, s_L_law_1061, s_L_law_1062, s_L_law_1063, s_L_law_1064, s_L_law_1065, s_L_law_1066, s_L_law_1069, s_L_law_1069n, s_L_law_1070, s_L_law_1071, s_L_law_1072, s_L_law_1073, s_L_law_1074, s_L_law_1075, s_L_law_1076, s_L_law_1077, s_L_law_1078, s_L_law_1079, s_L_law_1080, s_L_law_1081, s_L_law_1082, s_L_law_1083, s_L_law_1084, s_L_law_1085, s_L_law_1086, s_L_law_1087, s_L_law_1088, s_L_law_1089, s_L_law_1090, s_L_law_1091, s_L_law_1092, s_L_law_1093, s_L_law_1094, s_L_law_1095, s_L_law_1098, s_L_law_1101, s_L_law_1102, ↓reduceIte, Nat.reduceEqDiff, Nat.reduceLT, am_top, ax_f_some, ax_k_some, ax_k_none, s8_0, s8_1, s8_2, s8_3, s8_4, c2p_n, c2p_i, c2p_r, c2p_z, okvp_i, okvp_l, okvp_r, okvp_n, okvp_z, okvp_z0, okvp_z1, bi_narp, am_nar0p, am_nar1p, bi_0, bi_1, true_and, and_true, hj, nI_k2, nI_k3, nI_k4, nI_k5, nI_k6, nI_1, x1, d1, x2, d2, x3, d3, x4, d4, x5, d5, x6, d6, o_40 g1]
  · have hq := hQ τ hI hG
    simp only [s_L_law_1040, s_L_law_1040n, s_L_law_1041, s_L_law_1042, s_L_law_1043, s_L_law_1044, s_L_law_1045, s_L_law_1046, s_L_law_1047, s_L_law_1048, s_L_law_1049, s_L_law_1050, s_L_law_1051, s_L_law_1052, s_L_law_1053, s_L_law_1054, s_L_law_1055, s_L_law_1056, s_L_law_1057, s_L_law_1058, s_L_law_1059, s_L_law_1060, s_L_law_1061, s_L_law_1062, s_L_law_1063, s_L_law_1064, s_L_law_1065, s_L_law_1066, s_L_law_1069, s_L_law_1069n, s_L_law_1070, s_L_law_1071, s_L_law_1072, s_L_law_1073, s_L_law_1074, s_L_law_1075, s_L_law_1076, s_L_law_1077, s_L_law_1078, s_L_law_1079, s_L_law_1080, s_L_law_1081, s_L_law_1082, s_L_law_1083, s_L_law_1084, s_L_law_1085, s_L_law_1086, s_L_law_1087, s_L_law_1088, s_L_law_1089, s_L_law_1090, s_L_law_1091, s_L_law_1092, s_L_law_1093, s_L_law_1094, s_L_law_1095, s_L_law_1098, s_L_law_1101, s_L_law_1102, ↓reduceIte, Nat.reduceEqDiff, Nat.reduceLT, am_top, ax_f_some, ax_k_some, ax_k_none, s8_0, s8_1, s8_2, s8_3, s8_4, c2p_n, c2p_i, c2p_r, c2p_z, okvp_i, okvp_l, okvp_r, okvp_n, okvp_z, okvp_z0, okvp_z1, bi_narp, am_nar0p, am_nar1p, bi_0, bi_1, true_and, and_true]
    exact hq
theorem l_rate (I : INV L xs σ) (hi : i + 7 ≤ L) (hL : L ≤ 3584) (hQ : ∀ τ, INV L xs τ → Gr σ τ → ax k_L_law 1390 [some (.ref 1000000), some (.ref 0), some (.ref 40), some (.int (nI i))] [] τ Q) : ax k_L_law 1103 [some (.ref 1000000), some (.ref 0), some (.ref 40), some (.int (nI i))] [] σ Q := by
  have x1 := ix_nI (show i + 1 < L by omega) (by omega)
  have d1 : (nI (i + 1)).toNatClampNeg = i + 1 := nI_clamp (by omega)
  have x2 := ix_nI (show i + 2 < L by omega) (by omega)
  have d2 : (nI (i + 2)).toNatClampNeg = i + 2 := nI_clamp (by omega)
  have x3 := ix_nI (show i + 3 < L by omega) (by omega)
  have d3 : (nI (i + 3)).toNatClampNeg = i + 3 := nI_clamp (by omega)
  have x4 := ix_nI (show i + 4 < L by omega) (by omega)
  have d4 : (nI (i + 4)).toNatClampNeg = i + 4 := nI_clamp (by omega)
  have x5 := ix_nI (show i + 5 < L by omega) (by omega)
  have d5 : (nI (i + 5)).toNatClampNeg = i + 5 := nI_clamp (by omega)
  have x6 := ix_nI (show i + 6 < L by omega) (by omega)
  have d6 : (nI (i + 6)).toNatClampNeg = i + 6 := nI_clamp (by omega)
  have hS := I.1.1
  have hj := scr_j I.1.2.2
  simp only [s_L_law_1103, s_L_law_1103n, s_L_law_1104, s_L_law_1105, s_L_law_1106, s_L_law_1107, s_L_law_1108, s_L_law_1109, s_L_law_1110, s_L_law_1111, s_L_law_1112, s_L_law_1113, s_L_law_1114, s_L_law_1117, s_L_law_1117n, s_L_law_1118, s_L_law_1119, s_L_law_1120, s_L_law_1121, s_L_law_1122, s_L_law_1123, s_L_law_1124, s_L_law_1125, s_L_law_1126, s_L_law_1127, s_L_law_1128, s_L_law_1131, s_L_law_1134, s_L_law_1135, ↓reduceIte, Nat.reduceEqDiff, Nat.reduceLT, am_top, ax_f_some, ax_k_some, ax_k_none, s8_0, s8_1, s8_2, s8_3, s8_4, c2p_n, c2p_i, c2p_r, c2p_z, okvp_i, okvp_l, okvp_r, okvp_n, okvp_z, okvp_z0, okvp_z1, bi_narp, am_nar0p, am_nar1p, bi_0, bi_1, true_and, and_true, hj, nI_k2, nI_k3, nI_k4, nI_k5, nI_k6, nI_1, x1, d1, x2, d2, x3, d3, x4, d4, x5, d5, x6, d6, o_0 hS]
  refine c_rate I (xs (i + 1)) (xs (i + 2)) _ (fun v => ax_k k_L_law 1131 [some (.ref 1000000), some (.ref 0), some (.ref 40), some (.int (nI i))] [.int v] Q) (fun v σ1 g1 g2 => ?_) (fun v τ hI hG => ?_)
  · have hj := scr_j g2
    simp only [s_L_law_1103, s_L_law_1103n, s_L_law_1104, s_L_law_1105, s_L_law_1106, s_L_law_1107, s_L_law_1108, s_L_law_1109, s_L_law_1110, s_L_law_1111, s_L_law_1112, s_L_law_1113, s_L_law_1114, s_L_law_1117, s_L_law_1117n, s_L_law_1118, s_L_law_1119, s_L_law_1120, s_L_law_1121, s_L_law_1122, s_L_law_1123, s_L_law_1124, s_L_law_1125, s_L_law_1126, s_L_law_1127, s_L_law_1128, s_L_law_1131, s_L_law_1134, s_L_law_1135, ↓reduceIte, Nat.reduceEqDiff, Nat.reduceLT, am_top, ax_f_some, ax_k_some, ax_k_none, s8_0, s8_1, s8_2, s8_3, s8_4, c2p_n, c2p_i, c2p_r, c2p_z, okvp_i, okvp_l, okvp_r, okvp_n, okvp_z, okvp_z0, okvp_z1, bi_narp, am_nar0p, am_nar1p, bi_0, bi_1, true_and, and_true, hj, nI_k2, nI_k3, nI_k4, nI_k5, nI_k6, nI_1, x1, d1, x2, d2, x3, d3, x4, d4, x5, d5, x6, d6, o_40 g1]
  · have hq := hQ τ hI hG
    simp only [s_L_law_1103, s_L_law_1103n, s_L_law_1104, s_L_law_1105, s_L_law_1106, s_L_law_1107, s_L_law_1108, s_L_law_1109, s_L_law_1110, s_L_law_1111, s_L_law_1112, s_L_law_1113, s_L_law_1114, s_L_law_1117, s_L_law_1117n, s_L_law_1118, s_L_law_1119, s_L_law_1120, s_L_law_1121, s_L_law_1122, s_L_law_1123, s_L_law_1124, s_L_law_1125, s_L_law_1126, s_L_law_1127, s_L_law_1128, s_L_law_1131, s_L_law_1134, s_L_law_1135, ↓reduceIte, Nat.reduceEqDiff, Nat.reduceLT, am_top, ax_f_some, ax_k_some, ax_k_none, s8_0, s8_1, s8_2, s8_3, s8_4, c2p_n, c2p_i, c2p_r, c2p_z, okvp_i, okvp_l, okvp_r, okvp_n, okvp_z, okvp_z0, okvp_z1, bi_narp, am_nar0p, am_nar1p, bi_0, bi_1, true_and, and_true]
    exact hq
theorem l_sale (I : INV L xs σ) (hT : σ.1 < am_top) (hi : i + 7 ≤ L) (hL : L ≤ 3584) (hQ : ∀ τ, INV L xs τ → Gr σ τ → ax k_L_law 1390 [some (.ref 1000000), some (.ref 0), some (.ref 40), some (.int (nI i))] [] τ Q) : ax k_L_law 1136 [some (.ref 1000000), some (.ref 0), some (.ref 40), some (.int (nI i))] [] σ Q := by
  have x1 := ix_nI (show i + 1 < L by omega) (by omega)
  have d1 : (nI (i + 1)).toNatClampNeg = i + 1 := nI_clamp (by omega)
  have x2 := ix_nI (show i + 2 < L by omega) (by omega)
  have d2 : (nI (i + 2)).toNatClampNeg = i + 2 := nI_clamp (by omega)
  have x3 := ix_nI (show i + 3 < L by omega) (by omega)
  have d3 : (nI (i + 3)).toNatClampNeg = i + 3 := nI_clamp (by omega)
  have x4 := ix_nI (show i + 4 < L by omega) (by omega)
  have d4 : (nI (i + 4)).toNatClampNeg = i + 4 := nI_clamp (by omega)
  have x5 := ix_nI (show i + 5 < L by omega) (by omega)
  have d5 : (nI (i + 5)).toNatClampNeg = i + 5 := nI_clamp (by omega)
  have x6 := ix_nI (show i + 6 < L by omega) (by omega)
  have d6 : (nI (i + 6)).toNatClampNeg = i + 6 := nI_clamp (by omega)
  have hS := I.1.1
  have hj := scr_j I.1.2.2
  simp only [s_L_law_1136, s_L_law_1136n, s_L_law_1137, s_L_law_1138, s_L_law_1139, s_L_law_1140, s_L_law_1141, s_L_law_1142, s_L_law_1143, s_L_law_1144, s_L_law_1145, s_L_law_1146, s_L_law_1147, s_L_law_1148, s_L_law_1149, s_L_law_1150, s_L_law_1151, s_L_law_1152, s_L_law_1153, s_L_law_1154, s_L_law_1155, s_L_law_1156, s_L_law_1157, s_L_law_1158, s_L_law_1159, s_L_law_1160, s_L_law_1161, s_L_law_1162, s_L_law_1163, s_L_law_1164, s_L_law_1166, s_L_law_1167, s_L_law_1168, s_L_law_1171, s_L_law_1171n, s_L_law_1172, s_L_law_1173, s_L_law_1174, s_L_law_1175, s_L_law_1176, s_L_law_1177, s_L_law_1178, s_L_law_1179, s_L_law_1180, s_L_law_1181, s_L_law_1182, s_L_law_1183, s_L_law_1184, s_L_law_1185, s_L_law_1186, s_L_law_1187, s_L_law_1188, s_L_law_1189, s_L_law_1190, s_L_law_1191, s_L_law_1192, s_L_law_1193, s_L_law_1194, s_L_law_1195, s_L_law_1196, s_L_law_1197, s_L_law_1198, s_L_law_1199, s_L_law_1201, s_L_law_1202, s_L_law_1203, s_L_law_1206, s_L_law_1209, s_L_law_1210, ↓reduceIte, Nat.reduceEqDiff, Nat.reduceLT, am_top, ax_f_some, ax_k_some, ax_k_none, s8_0, s8_1, s8_2, s8_3, s8_4, c2p_n, c2p_i, c2p_r, c2p_z, okvp_i, okvp_l, okvp_r, okvp_n, okvp_z, okvp_z0, okvp_z1, bi_narp, am_nar0p, am_nar1p, bi_0, bi_1, true_and, and_true, hj, nI_k2, nI_k3, nI_k4, nI_k5, nI_k6, nI_1, x1, d1, x2, d2, x3, d3, x4, d4, x5, d5, x6, d6, o_0 hS]
  refine c_sale I hT (xs (i + 1)) (xs (i + 2)) (xs (i + 3)) (xs (i + 4)) (xs (i + 5)) (xs (i + 6)) _ (fun v => ax_k k_L_law 1206 [some (.ref 1000000), some (.ref 0), some (.ref 40), some (.int (nI i))] [.int v] Q) (fun v σ1 g1 g2 => ?_) (fun v τ hI hG => ?_)
  · have hj := scr_j g2
    simp only [s_L_law_1136, s_L_law_1136n, s_L_law_1137, s_L_law_1138, s_L_law_1139, s_L_law_1140, s_L_law_1141, s_L_law_1142, s_L_law_1143, s_L_law_1144, s_L_law_1145, s_L_law_1146, s_L_law_1147, s_L_law_1148, s_L_law_1149, s_L_law_1150, s_L_law_1151, s_L_law_1152, s_L_law_1153, s_L_law_1154, s_L_law_1155, s_L_law_1156, s_L_law_1157, s_L_law_1158, s_L_law_1159, s_L_law_1160, s_L_law_1161, s_L_law_1162, s_L_law_1163, s_L_law_1164, s_L_law_1166, s_L_law_1167, s_L_law_1168, s_L_law_1171, s_L_law_1171n, s_L_law_1172, s_L_law_1173, s_L_law_1174, s_L_law_1175, s_L_law_1176, s_L_law_1177, s_L_law_1178, s_L_law_1179, s_L_law_1180, s_L_law_1181, s_L_law_1182, s_L_law_1183, s_L_law_1184, s_L_law_1185, s_L_law_1186, s_L_law_1187, s_L_law_1188, s_L_law_1189, s_L_law_1190, s_L_law_1191, s_L_law_1192, s_L_law_1193, s_L_law_1194, s_L_law_1195, s_L_law_1196, s_L_law_1197, s_L_law_1198, s_L_law_1199, s_L_law_1201, s_L_law_1202, s_L_law_1203, s_L_law_1206, s_L_law_1209, s_L_law_1210, ↓reduceIte, Nat.reduceEqDiff, Nat.reduceLT, am_top, ax_f_some, ax_k_some, ax_k_none, s8_0, s8_1, s8_2, s8_3, s8_4, c2p_n, c2p_i, c2p_r, c2p_z, okvp_i, okvp_l, okvp_r, okvp_n, okvp_z, okvp_z0, okvp_z1, bi_narp, am_nar0p, am_nar1p, bi_0, bi_1, true_and, and_true, hj, nI_k2, nI_k3, nI_k4, nI_k5, nI_k6, nI_1, x1, d1, x2, d2, x3, d3, x4, d4, x5, d5, x6, d6, o_40 g1]
  · have hq := hQ τ hI hG
    simp only [s_L_law_1136, s_L_law_1136n, s_L_law_1137, s_L_law_1138, s_L_law_1139, s_L_law_1140, s_L_law_1141, s_L_law_1142, s_L_law_1143, s_L_law_1144, s_L_law_1145, s_L_law_1146, s_L_law_1147, s_L_law_1148, s_L_law_1149, s_L_law_1150, s_L_law_1151, s_L_law_1152, s_L_law_1153, s_L_law_1154, s_L_law_1155, s_L_law_1156, s_L_law_1157, s_L_law_1158, s_L_law_1159, s_L_law_1160, s_L_law_1161, s_L_law_1162, s_L_law_1163, s_L_law_1164, s_L_law_1166, s_L_law_1167, s_L_law_1168, s_L_law_1171, s_L_law_1171n, s_L_law_1172, s_L_law_1173, s_L_law_1174, s_L_law_1175, s_L_law_1176, s_L_law_1177, s_L_law_1178, s_L_law_1179, s_L_law_1180, s_L_law_1181, s_L_law_1182, s_L_law_1183, s_L_law_1184, s_L_law_1185, s_L_law_1186, s_L_law_1187, s_L_law_1188, s_L_law_1189, s_L_law_1190, s_L_law_1191, s_L_law_1192, s_L_law_1193, s_L_law_1194, s_L_law_1195, s_L_law_1196, s_L_law_1197, s_L_law_1198, s_L_law_1199, s_L_law_1201, s_L_law_1202, s_L_law_1203, s_L_law_1206, s_L_law_1209, s_L_law_1210, ↓reduceIte, Nat.reduceEqDiff, Nat.reduceLT, am_top, ax_f_some, ax_k_some, ax_k_none, s8_0, s8_1, s8_2, s8_3, s8_4, c2p_n, c2p_i, c2p_r, c2p_z, okvp_i, okvp_l, okvp_r, okvp_n, okvp_z, okvp_z0, okvp_z1, bi_narp, am_nar0p, am_nar1p, bi_0, bi_1, true_and, and_true]
    exact hq
theorem l_strike (I : INV L xs σ) (hi : i + 7 ≤ L) (hL : L ≤ 3584) (hQ : ∀ τ, INV L xs τ → Gr σ τ → ax k_L_law 1390 [some (.ref 1000000), some (.ref 0), some (.ref 40), some (.int (nI i))] [] τ Q) : ax k_L_law 1211 [some (.ref 1000000), some (.ref 0), some (.ref 40), some (.int (nI i))] [] σ Q := by
  have x1 := ix_nI (show i + 1 < L by omega) (by omega)
  have d1 : (nI (i + 1)).toNatClampNeg = i + 1 := nI_clamp (by omega)
  have x2 := ix_nI (show i + 2 < L by omega) (by omega)
  have d2 : (nI (i + 2)).toNatClampNeg = i + 2 := nI_clamp (by omega)
  have x3 := ix_nI (show i + 3 < L by omega) (by omega)
  have d3 : (nI (i + 3)).toNatClampNeg = i + 3 := nI_clamp (by omega)
  have x4 := ix_nI (show i + 4 < L by omega) (by omega)
  have d4 : (nI (i + 4)).toNatClampNeg = i + 4 := nI_clamp (by omega)
  have x5 := ix_nI (show i + 5 < L by omega) (by omega)
  have d5 : (nI (i + 5)).toNatClampNeg = i + 5 := nI_clamp (by omega)
  have x6 := ix_nI (show i + 6 < L by omega) (by omega)
  have d6 : (nI (i + 6)).toNatClampNeg = i + 6 := nI_clamp (by omega)
  have hS := I.1.1
  have hj := scr_j I.1.2.2
  simp only [s_L_law_1211, s_L_law_1211n, s_L_law_1212, s_L_law_1213, s_L_law_1214, s_L_law_1215, s_L_law_1216, s_L_law_1217, s_L_law_1220, s_L_law_1220n, s_L_law_1221, s_L_law_1222, s_L_law_1223, s_L_law_1224, s_L_law_1225, s_L_law_1226, s_L_law_1229, s_L_law_1232, s_L_law_1233, ↓reduceIte, Nat.reduceEqDiff, Nat.reduceLT, am_top, ax_f_some, ax_k_some, ax_k_none, s8_0, s8_1, s8_2, s8_3, s8_4, c2p_n, c2p_i, c2p_r, c2p_z, okvp_i, okvp_l, okvp_r, okvp_n, okvp_z, okvp_z0, okvp_z1, bi_narp, am_nar0p, am_nar1p, bi_0, bi_1, true_and, and_true, hj, nI_k2, nI_k3, nI_k4, nI_k5, nI_k6, nI_1, x1, d1, x2, d2, x3, d3, x4, d4, x5, d5, x6, d6, o_0 hS]
  refine c_strike I (xs (i + 1)) _ (fun v => ax_k k_L_law 1229 [some (.ref 1000000), some (.ref 0), some (.ref 40), some (.int (nI i))] [.int v] Q) (fun v σ1 g1 g2 => ?_) (fun v τ hI hG => ?_)
  · have hj := scr_j g2
    simp only [s_L_law_1211, s_L_law_1211n, s_L_law_1212, s_L_law_1213, s_L_law_1214, s_L_law_1215, s_L_law_1216, s_L_law_1217, s_L_law_1220, s_L_law_1220n, s_L_law_1221, s_L_law_1222, s_L_law_1223, s_L_law_1224, s_L_law_1225, s_L_law_1226, s_L_law_1229, s_L_law_1232, s_L_law_1233, ↓reduceIte, Nat.reduceEqDiff, Nat.reduceLT, am_top, ax_f_some, ax_k_some, ax_k_none, s8_0, s8_1, s8_2, s8_3, s8_4, c2p_n, c2p_i, c2p_r, c2p_z, okvp_i, okvp_l, okvp_r, okvp_n, okvp_z, okvp_z0, okvp_z1, bi_narp, am_nar0p, am_nar1p, bi_0, bi_1, true_and, and_true, hj, nI_k2, nI_k3, nI_k4, nI_k5, nI_k6, nI_1, x1, d1, x2, d2, x3, d3, x4, d4, x5, d5, x6, d6, o_40 g1]
  · have hq := hQ τ hI hG
    simp only [s_L_law_1211, s_L_law_1211n, s_L_law_1212, s_L_law_1213, s_L_law_1214, s_L_law_1215, s_L_law_1216, s_L_law_1217, s_L_law_1220, s_L_law_1220n, s_L_law_1221, s_L_law_1222, s_L_law_1223, s_L_law_1224, s_L_law_1225, s_L_law_1226, s_L_law_1229, s_L_law_1232, s_L_law_1233, ↓reduceIte, Nat.reduceEqDiff, Nat.reduceLT, am_top, ax_f_some, ax_k_some, ax_k_none, s8_0, s8_1, s8_2, s8_3, s8_4, c2p_n, c2p_i, c2p_r, c2p_z, okvp_i, okvp_l, okvp_r, okvp_n, okvp_z, okvp_z0, okvp_z1, bi_narp, am_nar0p, am_nar1p, bi_0, bi_1, true_and, and_true]
    exact hq
theorem l_saleOf (I : INV L xs σ) (hi : i + 7 ≤ L) (hL : L ≤ 3584) (hQ : ∀ τ, INV L xs τ → Gr σ τ → ax k_L_law 1390 [some (.ref 1000000), some (.ref 0), some (.ref 40), some (.int (nI i))] [] τ Q) : ax k_L_law 1234 [some (.ref 1000000), some (.ref 0), some (.ref 40), some (.int (nI i))] [] σ Q := by
  have x1 := ix_nI (show i + 1 < L by omega) (by omega)
  have d1 : (nI (i + 1)).toNatClampNeg = i + 1 := nI_clamp (by omega)
  have x2 := ix_nI (show i + 2 < L by omega) (by omega)
  have d2 : (nI (i + 2)).toNatClampNeg = i + 2 := nI_clamp (by omega)
  have x3 := ix_nI (show i + 3 < L by omega) (by omega)
  have d3 : (nI (i + 3)).toNatClampNeg = i + 3 := nI_clamp (by omega)
  have x4 := ix_nI (show i + 4 < L by omega) (by omega)
  have d4 : (nI (i + 4)).toNatClampNeg = i + 4 := nI_clamp (by omega)
  have x5 := ix_nI (show i + 5 < L by omega) (by omega)
  have d5 : (nI (i + 5)).toNatClampNeg = i + 5 := nI_clamp (by omega)
  have x6 := ix_nI (show i + 6 < L by omega) (by omega)
  have d6 : (nI (i + 6)).toNatClampNeg = i + 6 := nI_clamp (by omega)
  have hS := I.1.1
  have hj := scr_j I.1.2.2
  simp only [s_L_law_1234, s_L_law_1234n, s_L_law_1235, s_L_law_1236, s_L_law_1237, s_L_law_1238, s_L_law_1239, s_L_law_1240, s_L_law_1241, s_L_law_1242, s_L_law_1243, s_L_law_1244, s_L_law_1245, s_L_law_1248, s_L_law_1248n, s_L_law_1249, s_L_law_1250, s_L_law_1251, s_L_law_1252, s_L_law_1253, s_L_law_1254, s_L_law_1255, s_L_law_1256, s_L_law_1257, s_L_law_1258, s_L_law_1259, s_L_law_1262, s_L_law_1265, s_L_law_1266, ↓reduceIte, Nat.reduceEqDiff, Nat.reduceLT, am_top, ax_f_some, ax_k_some, ax_k_none, s8_0, s8_1, s8_2, s8_3, s8_4, c2p_n, c2p_i, c2p_r, c2p_z, okvp_i, okvp_l, okvp_r, okvp_n, okvp_z, okvp_z0, okvp_z1, bi_narp, am_nar0p, am_nar1p, bi_0, bi_1, true_and, and_true, hj, nI_k2, nI_k3, nI_k4, nI_k5, nI_k6, nI_1, x1, d1, x2, d2, x3, d3, x4, d4, x5, d5, x6, d6, o_0 hS]
  refine c_saleOf I (xs (i + 1)) (xs (i + 2)) _ (fun v => ax_k k_L_law 1262 [some (.ref 1000000), some (.ref 0), some (.ref 40), some (.int (nI i))] [.int v] Q) (fun v σ1 g1 g2 => ?_) (fun v τ hI hG => ?_)
  · have hj := scr_j g2
    simp only [s_L_law_1234, s_L_law_1234n, s_L_law_1235, s_L_law_1236, s_L_law_1237, s_L_law_1238, s_L_law_1239, s_L_law_1240, s_L_law_1241, s_L_law_1242, s_L_law_1243, s_L_law_1244, s_L_law_1245, s_L_law_1248, s_L_law_1248n, s_L_law_1249, s_L_law_1250, s_L_law_1251, s_L_law_1252, s_L_law_1253, s_L_law_1254, s_L_law_1255, s_L_law_1256, s_L_law_1257, s_L_law_1258, s_L_law_1259, s_L_law_1262, s_L_law_1265, s_L_law_1266, ↓reduceIte, Nat.reduceEqDiff, Nat.reduceLT, am_top, ax_f_some, ax_k_some, ax_k_none, s8_0, s8_1, s8_2, s8_3, s8_4, c2p_n, c2p_i, c2p_r, c2p_z, okvp_i, okvp_l, okvp_r, okvp_n, okvp_z, okvp_z0, okvp_z1, bi_narp, am_nar0p, am_nar1p, bi_0, bi_1, true_and, and_true, hj, nI_k2, nI_k3, nI_k4, nI_k5, nI_k6, nI_1, x1, d1, x2, d2, x3, d3, x4, d4, x5, d5, x6, d6, o_40 g1]
  · have hq := hQ τ hI hG
    simp only [s_L_law_1234, s_L_law_1234n, s_L_law_1235, s_L_law_1236, s_L_law_1237, s_L_law_1238, s_L_law_1239, s_L_law_1240, s_L_law_1241, s_L_law_1242, s_L_law_1243, s_L_law_1244, s_L_law_1245, s_L_law_1248, s_L_law_1248n, s_L_law_1249, s_L_law_1250, s_L_law_1251, s_L_law_1252, s_L_law_1253, s_L_law_1254, s_L_law_1255, s_L_law_1256, s_L_law_1257, s_L_law_1258, s_L_law_1259, s_L_law_1262, s_L_law_1265, s_L_law_1266, ↓reduceIte, Nat.reduceEqDiff, Nat.reduceLT, am_top, ax_f_some, ax_k_some, ax_k_none, s8_0, s8_1, s8_2, s8_3, s8_4, c2p_n, c2p_i, c2p_r, c2p_z, okvp_i, okvp_l, okvp_r, okvp_n, okvp_z, okvp_z0, okvp_z1, bi_narp, am_nar0p, am_nar1p, bi_0, bi_1, true_and, and_true]
    exact hq
theorem l_got (I : INV L xs σ) (hi : i + 7 ≤ L) (hL : L ≤ 3584) (hQ : ∀ τ, INV L xs τ → Gr σ τ → ax k_L_law 1390 [some (.ref 1000000), some (.ref 0), some (.ref 40), some (.int (nI i))] [] τ Q) : ax k_L_law 1267 [some (.ref 1000000), some (.ref 0), some (.ref 40), some (.int (nI i))] [] σ Q := by
  have x1 := ix_nI (show i + 1 < L by omega) (by omega)
  have d1 : (nI (i + 1)).toNatClampNeg = i + 1 := nI_clamp (by omega)
  have x2 := ix_nI (show i + 2 < L by omega) (by omega)
  have d2 : (nI (i + 2)).toNatClampNeg = i + 2 := nI_clamp (by omega)
  have x3 := ix_nI (show i + 3 < L by omega) (by omega)
  have d3 : (nI (i + 3)).toNatClampNeg = i + 3 := nI_clamp (by omega)
  have x4 := ix_nI (show i + 4 < L by omega) (by omega)
  have d4 : (nI (i + 4)).toNatClampNeg = i + 4 := nI_clamp (by omega)
  have x5 := ix_nI (show i + 5 < L by omega) (by omega)
  have d5 : (nI (i + 5)).toNatClampNeg = i + 5 := nI_clamp (by omega)
  have x6 := ix_nI (show i + 6 < L by omega) (by omega)
  have d6 : (nI (i + 6)).toNatClampNeg = i + 6 := nI_clamp (by omega)
  have hS := I.1.1
  have hj := scr_j I.1.2.2
  simp only [s_L_law_1267, s_L_law_1267n, s_L_law_1268, s_L_law_1269, s_L_law_1270, s_L_law_1271, s_L_law_1272, s_L_law_1273, s_L_law_1276, s_L_law_1276n, s_L_law_1277, s_L_law_1278, s_L_law_1279, s_L_law_1280, s_L_law_1281, s_L_law_1282, s_L_law_1285, s_L_law_1286, s_L_law_1289, s_L_law_1290, ↓reduceIte, Nat.reduceEqDiff, Nat.reduceLT, am_top, ax_f_some, ax_k_some, ax_k_none, s8_0, s8_1, s8_2, s8_3, s8_4, c2p_n, c2p_i, c2p_r, c2p_z, okvp_i, okvp_l, okvp_r, okvp_n, okvp_z, okvp_z0, okvp_z1, bi_narp, am_nar0p, am_nar1p, bi_0, bi_1, true_and, and_true, hj, nI_k2, nI_k3, nI_k4, nI_k5, nI_k6, nI_1, x1, d1, x2, d2, x3, d3, x4, d4, x5, d5, x6, d6, o_0 hS]
  refine c_got I (xs (i + 1)) _ (fun v => ax_k k_L_law 1285 [some (.ref 1000000), some (.ref 0), some (.ref 40), some (.int (nI i))] [.long v] Q) (fun v σ1 g1 g2 => ?_) (fun v τ hI hG => ?_)
  · have hj := scr_j g2
    simp only [s_L_law_1267, s_L_law_1267n, s_L_law_1268, s_L_law_1269, s_L_law_1270, s_L_law_1271, s_L_law_1272, s_L_law_1273, s_L_law_1276, s_L_law_1276n, s_L_law_1277, s_L_law_1278, s_L_law_1279, s_L_law_1280, s_L_law_1281, s_L_law_1282, s_L_law_1285, s_L_law_1286, s_L_law_1289, s_L_law_1290, ↓reduceIte, Nat.reduceEqDiff, Nat.reduceLT, am_top, ax_f_some, ax_k_some, ax_k_none, s8_0, s8_1, s8_2, s8_3, s8_4, c2p_n, c2p_i, c2p_r, c2p_z, okvp_i, okvp_l, okvp_r, okvp_n, okvp_z, okvp_z0, okvp_z1, bi_narp, am_nar0p, am_nar1p, bi_0, bi_1, true_and, and_true, hj, nI_k2, nI_k3, nI_k4, nI_k5, nI_k6, nI_1, x1, d1, x2, d2, x3, d3, x4, d4, x5, d5, x6, d6, o_40 g1]
  · have hq := hQ τ hI hG
    simp only [s_L_law_1267, s_L_law_1267n, s_L_law_1268, s_L_law_1269, s_L_law_1270, s_L_law_1271, s_L_law_1272, s_L_law_1273, s_L_law_1276, s_L_law_1276n, s_L_law_1277, s_L_law_1278, s_L_law_1279, s_L_law_1280, s_L_law_1281, s_L_law_1282, s_L_law_1285, s_L_law_1286, s_L_law_1289, s_L_law_1290, ↓reduceIte, Nat.reduceEqDiff, Nat.reduceLT, am_top, ax_f_some, ax_k_some, ax_k_none, s8_0, s8_1, s8_2, s8_3, s8_4, c2p_n, c2p_i, c2p_r, c2p_z, okvp_i, okvp_l, okvp_r, okvp_n, okvp_z, okvp_z0, okvp_z1, bi_narp, am_nar0p, am_nar1p, bi_0, bi_1, true_and, and_true, lgc_self]
    exact hq
theorem l_print (I : INV L xs σ) (hi : i + 7 ≤ L) (hL : L ≤ 3584) (hQ : ∀ τ, INV L xs τ → Gr σ τ → ax k_L_law 1390 [some (.ref 1000000), some (.ref 0), some (.ref 40), some (.int (nI i))] [] τ Q) : ax k_L_law 1291 [some (.ref 1000000), some (.ref 0), some (.ref 40), some (.int (nI i))] [] σ Q := by
  have x1 := ix_nI (show i + 1 < L by omega) (by omega)
  have d1 : (nI (i + 1)).toNatClampNeg = i + 1 := nI_clamp (by omega)
  have x2 := ix_nI (show i + 2 < L by omega) (by omega)
  have d2 : (nI (i + 2)).toNatClampNeg = i + 2 := nI_clamp (by omega)
  have x3 := ix_nI (show i + 3 < L by omega) (by omega)
  have d3 : (nI (i + 3)).toNatClampNeg = i + 3 := nI_clamp (by omega)
  have x4 := ix_nI (show i + 4 < L by omega) (by omega)
  have d4 : (nI (i + 4)).toNatClampNeg = i + 4 := nI_clamp (by omega)
  have x5 := ix_nI (show i + 5 < L by omega) (by omega)
  have d5 : (nI (i + 5)).toNatClampNeg = i + 5 := nI_clamp (by omega)
  have x6 := ix_nI (show i + 6 < L by omega) (by omega)
  have d6 : (nI (i + 6)).toNatClampNeg = i + 6 := nI_clamp (by omega)
  have hS := I.1.1
  have hj := scr_j I.1.2.2
  simp only [s_L_law_1291, s_L_law_1291n, s_L_law_1292, s_L_law_1293, s_L_law_1294, s_L_law_1295, s_L_law_1296, s_L_law_1297, s_L_law_1298, s_L_law_1299, s_L_law_1300, s_L_law_1301, s_L_law_1302, s_L_law_1303, s_L_law_1304, s_L_law_1305, s_L_law_1306, s_L_law_1307, s_L_law_1308, s_L_law_1309, s_L_law_1310, s_L_law_1311, s_L_law_1312, s_L_law_1315, s_L_law_1315n, s_L_law_1316, s_L_law_1317, s_L_law_1318, s_L_law_1319, s_L_law_1320, s_L_law_1321, s_L_law_1322, s_L_law_1323, s_L_law_1324, s_L_law_1325, s_L_law_1326, s_L_law_1327, s_L_law_1328, s_L_law_1329, s_L_law_1330, s_L_law_1331, s_L_law_1332, s_L_law_1333, s_L_law_1334, s_L_law_1335, s_L_law_1336, s_L_law_1339, s_L_law_1342, s_L_law_1343, ↓reduceIte, Nat.reduceEqDiff, Nat.reduceLT, am_top, ax_f_some, ax_k_some, ax_k_none, s8_0, s8_1, s8_2, s8_3, s8_4, c2p_n, c2p_i, c2p_r, c2p_z, okvp_i, okvp_l, okvp_r, okvp_n, okvp_z, okvp_z0, okvp_z1, bi_narp, am_nar0p, am_nar1p, bi_0, bi_1, true_and, and_true, hj, nI_k2, nI_k3, nI_k4, nI_k5, nI_k6, nI_1, x1, d1, x2, d2, x3, d3, x4, d4, x5, d5, x6, d6, o_0 hS]
  refine c_print I (xs (i + 1)) (xs (i + 2)) (xs (i + 3)) (xs (i + 4)) _ (fun v => ax_k k_L_law 1339 [some (.ref 1000000), some (.ref 0), some (.ref 40), some (.int (nI i))] [.int v] Q) (fun v σ1 g1 g2 => ?_) (fun v τ hI hG => ?_)
  · have hj := scr_j g2
    simp only [s_L_law_1291, s_L_law_1291n, s_L_law_1292, s_L_law_1293, s_L_law_1294, s_L_law_1295, s_L_law_1296, s_L_law_1297, s_L_law_1298, s_L_law_1299, s_L_law_1300, s_L_law_1301, s_L_law_1302, s_L_law_1303, s_L_law_1304, s_L_law_1305, s_L_law_1306, s_L_law_1307, s_L_law_1308, s_L_law_1309, s_L_law_1310, s_L_law_1311, s_L_law_1312, s_L_law_1315, s_L_law_1315n, s_L_law_1316, s_L_law_1317, s_L_law_1318, s_L_law_1319, s_L_law_1320, s_L_law_1321, s_L_law_1322, s_L_law_1323, s_L_law_1324, s_L_law_1325, s_L_law_1326, s_L_law_1327, s_L_law_1328, s_L_law_1329, s_L_law_1330, s_L_law_1331, s_L_law_1332, s_L_law_1333, s_L_law_1334, s_L_law_1335, s_L_law_1336, s_L_law_1339, s_L_law_1342, s_L_law_1343, ↓reduceIte, Nat.reduceEqDiff, Nat.reduceLT, am_top, ax_f_some, ax_k_some, ax_k_none, s8_0, s8_1, s8_2, s8_3, s8_4, c2p_n, c2p_i, c2p_r, c2p_z, okvp_i, okvp_l, okvp_r, okvp_n, okvp_z, okvp_z0, okvp_z1, bi_narp, am_nar0p, am_nar1p, bi_0, bi_1, true_and, and_true, hj, nI_k2, nI_k3, nI_k4, nI_k5, nI_k6, nI_1, x1, d1, x2, d2, x3, d3, x4, d4, x5, d5, x6, d6, o_40 g1]
  · have hq := hQ τ hI hG
    simp only [s_L_law_1291, s_L_law_1291n, s_L_law_1292, s_L_law_1293, s_L_law_1294, s_L_law_1295, s_L_law_1296, s_L_law_1297, s_L_law_1298, s_L_law_1299, s_L_law_1300, s_L_law_1301, s_L_law_1302, s_L_law_1303, s_L_law_1304, s_L_law_1305, s_L_law_1306, s_L_law_1307, s_L_law_1308, s_L_law_1309, s_L_law_1310, s_L_law_1311, s_L_law_1312, s_L_law_1315, s_L_law_1315n, s_L_law_1316, s_L_law_1317, s_L_law_1318, s_L_law_1319, s_L_law_1320, s_L_law_1321, s_L_law_1322, s_L_law_1323, s_L_law_1324, s_L_law_1325, s_L_law_1326, s_L_law_1327, s_L_law_1328, s_L_law_1329, s_L_law_1330, s_L_law_1331, s_L_law_1332, s_L_law_1333, s_L_law_1334, s_L_law_1335, s_L_law_1336, s_L_law_1339, s_L_law_1342, s_L_law_1343, ↓reduceIte, Nat.reduceEqDiff, Nat.reduceLT, am_top, ax_f_some, ax_k_some, ax_k_none, s8_0, s8_1, s8_2, s8_3, s8_4, c2p_n, c2p_i, c2p_r, c2p_z, okvp_i, okvp_l, okvp_r, okvp_n, okvp_z, okvp_z0, okvp_z1, bi_narp, am_nar0p, am_nar1p, bi_0, bi_1, true_and, and_true]
    exact hq
theorem l_printed (I : INV L xs σ) (hi : i + 7 ≤ L) (hL : L ≤ 3584) (hQ : ∀ τ, INV L xs τ → Gr σ τ → ax k_L_law 1390 [some (.ref 1000000), some (.ref 0), some (.ref 40), some (.int (nI i))] [] τ Q) : ax k_L_law 1344 [some (.ref 1000000), some (.ref 0), some (.ref 40), some (.int (nI i))] [] σ Q := by
  have x1 := ix_nI (show i + 1 < L by omega) (by omega)
  have d1 : (nI (i + 1)).toNatClampNeg = i + 1 := nI_clamp (by omega)
  have x2 := ix_nI (show i + 2 < L by omega) (by omega)
  have d2 : (nI (i + 2)).toNatClampNeg = i + 2 := nI_clamp (by omega)
  have x3 := ix_nI (show i + 3 < L by omega) (by omega)
  have d3 : (nI (i + 3)).toNatClampNeg = i + 3 := nI_clamp (by omega)
  have x4 := ix_nI (show i + 4 < L by omega) (by omega)
  have d4 : (nI (i + 4)).toNatClampNeg = i + 4 := nI_clamp (by omega)
  have x5 := ix_nI (show i + 5 < L by omega) (by omega)
  have d5 : (nI (i + 5)).toNatClampNeg = i + 5 := nI_clamp (by omega)
  have x6 := ix_nI (show i + 6 < L by omega) (by omega)
  have d6 : (nI (i + 6)).toNatClampNeg = i + 6 := nI_clamp (by omega)
  have hS := I.1.1
  have hj := scr_j I.1.2.2
  simp only [s_L_law_1344, s_L_law_1344n, s_L_law_1345, s_L_law_1346, s_L_law_1347, s_L_law_1348, s_L_law_1349, s_L_law_1350, s_L_law_1353, s_L_law_1353n, s_L_law_1354, s_L_law_1355, s_L_law_1356, s_L_law_1357, s_L_law_1358, s_L_law_1359, s_L_law_1362, s_L_law_1365, s_L_law_1366, ↓reduceIte, Nat.reduceEqDiff, Nat.reduceLT, am_top, ax_f_some, ax_k_some, ax_k_none, s8_0, s8_1, s8_2, s8_3, s8_4, c2p_n, c2p_i, c2p_r, c2p_z, okvp_i, okvp_l, okvp_r, okvp_n, okvp_z, okvp_z0, okvp_z1, bi_narp, am_nar0p, am_nar1p, bi_0, bi_1, true_and, and_true, hj, nI_k2, nI_k3, nI_k4, nI_k5, nI_k6, nI_1, x1, d1, x2, d2, x3, d3, x4, d4, x5, d5, x6, d6, o_0 hS]
  refine c_printed I (xs (i + 1)) _ (fun v => ax_k k_L_law 1362 [some (.ref 1000000), some (.ref 0), some (.ref 40), some (.int (nI i))] [.int v] Q) (fun v σ1 g1 g2 => ?_) (fun v τ hI hG => ?_)
  · have hj := scr_j g2
    simp only [s_L_law_1344, s_L_law_1344n, s_L_law_1345, s_L_law_1346, s_L_law_1347, s_L_law_1348, s_L_law_1349, s_L_law_1350, s_L_law_1353, s_L_law_1353n, s_L_law_1354, s_L_law_1355, s_L_law_1356, s_L_law_1357, s_L_law_1358, s_L_law_1359, s_L_law_1362, s_L_law_1365, s_L_law_1366, ↓reduceIte, Nat.reduceEqDiff, Nat.reduceLT, am_top, ax_f_some, ax_k_some, ax_k_none, s8_0, s8_1, s8_2, s8_3, s8_4, c2p_n, c2p_i, c2p_r, c2p_z, okvp_i, okvp_l, okvp_r, okvp_n, okvp_z, okvp_z0, okvp_z1, bi_narp, am_nar0p, am_nar1p, bi_0, bi_1, true_and, and_true, hj, nI_k2, nI_k3, nI_k4, nI_k5, nI_k6, nI_1, x1, d1, x2, d2, x3, d3, x4, d4, x5, d5, x6, d6, o_40 g1]
  · have hq := hQ τ hI hG
    simp only [s_L_law_1344, s_L_law_1344n, s_L_law_1345, s_L_law_1346, s_L_law_1347, s_L_law_1348, s_L_law_1349, s_L_law_1350, s_L_law_1353, s_L_law_1353n, s_L_law_1354, s_L_law_1355, s_L_law_1356, s_L_law_1357, s_L_law_1358, s_L_law_1359, s_L_law_1362, s_L_law_1365, s_L_law_1366, ↓reduceIte, Nat.reduceEqDiff, Nat.reduceLT, am_top, ax_f_some, ax_k_some, ax_k_none, s8_0, s8_1, s8_2, s8_3, s8_4, c2p_n, c2p_i, c2p_r, c2p_z, okvp_i, okvp_l, okvp_r, okvp_n, okvp_z, okvp_z0, okvp_z1, bi_narp, am_nar0p, am_nar1p, bi_0, bi_1, true_and, and_true]
    exact hq
theorem l_about (I : INV L xs σ) (hi : i + 7 ≤ L) (hL : L ≤ 3584) (hQ : ∀ τ, INV L xs τ → Gr σ τ → ax k_L_law 1390 [some (.ref 1000000), some (.ref 0), some (.ref 40), some (.int (nI i))] [] τ Q) : ax k_L_law 1367 [some (.ref 1000000), some (.ref 0), some (.ref 40), some (.int (nI i))] [] σ Q := by
  have x1 := ix_nI (show i + 1 < L by omega) (by omega)
  have d1 : (nI (i + 1)).toNatClampNeg = i + 1 := nI_clamp (by omega)
  have x2 := ix_nI (show i + 2 < L by omega) (by omega)
  have d2 : (nI (i + 2)).toNatClampNeg = i + 2 := nI_clamp (by omega)
  have x3 := ix_nI (show i + 3 < L by omega) (by omega)
  have d3 : (nI (i + 3)).toNatClampNeg = i + 3 := nI_clamp (by omega)
  have x4 := ix_nI (show i + 4 < L by omega) (by omega)
  have d4 : (nI (i + 4)).toNatClampNeg = i + 4 := nI_clamp (by omega)
  have x5 := ix_nI (show i + 5 < L by omega) (by omega)
  have d5 : (nI (i + 5)).toNatClampNeg = i + 5 := nI_clamp (by omega)
  have x6 := ix_nI (show i + 6 < L by omega) (by omega)
  have d6 : (nI (i + 6)).toNatClampNeg = i + 6 := nI_clamp (by omega)
  have hS := I.1.1
  have hj := scr_j I.1.2.2
  simp only [s_L_law_1367, s_L_law_1367n, s_L_law_1368, s_L_law_1369, s_L_law_1370, s_L_law_1371, s_L_law_1372, s_L_law_1373, s_L_law_1376, s_L_law_1376n, s_L_law_1377, s_L_law_1378, s_L_law_1379, s_L_law_1380, s_L_law_1381, s_L_law_1382, s_L_law_1385, s_L_law_1388, s_L_law_1389, ↓reduceIte, Nat.reduceEqDiff, Nat.reduceLT, am_top, ax_f_some, ax_k_some, ax_k_none, s8_0, s8_1, s8_2, s8_3, s8_4, c2p_n, c2p_i, c2p_r, c2p_z, okvp_i, okvp_l, okvp_r, okvp_n, okvp_z, okvp_z0, okvp_z1, bi_narp, am_nar0p, am_nar1p, bi_0, bi_1, true_and, and_true, hj, nI_k2, nI_k3, nI_k4, nI_k5, nI_k6, nI_1, x1, d1, x2, d2, x3, d3, x4, d4, x5, d5, x6, d6, o_0 hS]
  refine c_about I (xs (i + 1)) _ (fun v => ax_k k_L_law 1385 [some (.ref 1000000), some (.ref 0), some (.ref 40), some (.int (nI i))] [.int v] Q) (fun v σ1 g1 g2 => ?_) (fun v τ hI hG => ?_)
  · have hj := scr_j g2
    simp only [s_L_law_1367, s_L_law_1367n, s_L_law_1368, s_L_law_1369, s_L_law_1370, s_L_law_1371, s_L_law_1372, s_L_law_1373, s_L_law_1376, s_L_law_1376n, s_L_law_1377, s_L_law_1378, s_L_law_1379, s_L_law_1380, s_L_law_1381, s_L_law_1382, s_L_law_1385, s_L_law_1388, s_L_law_1389, ↓reduceIte, Nat.reduceEqDiff, Nat.reduceLT, am_top, ax_f_some, ax_k_some, ax_k_none, s8_0, s8_1, s8_2, s8_3, s8_4, c2p_n, c2p_i, c2p_r, c2p_z, okvp_i, okvp_l, okvp_r, okvp_n, okvp_z, okvp_z0, okvp_z1, bi_narp, am_nar0p, am_nar1p, bi_0, bi_1, true_and, and_true, hj, nI_k2, nI_k3, nI_k4, nI_k5, nI_k6, nI_1, x1, d1, x2, d2, x3, d3, x4, d4, x5, d5, x6, d6, o_40 g1]
  · have hq := hQ τ hI hG
    simp only [s_L_law_1367, s_L_law_1367n, s_L_law_1368, s_L_law_1369, s_L_law_1370, s_L_law_1371, s_L_law_1372, s_L_law_1373, s_L_law_1376, s_L_law_1376n, s_L_law_1377, s_L_law_1378, s_L_law_1379, s_L_law_1380, s_L_law_1381, s_L_law_1382, s_L_law_1385, s_L_law_1388, s_L_law_1389, ↓reduceIte, Nat.reduceEqDiff, Nat.reduceLT, am_top, ax_f_some, ax_k_some, ax_k_none, s8_0, s8_1, s8_2, s8_3, s8_4, c2p_n, c2p_i, c2p_r, c2p_z, okvp_i, okvp_l, okvp_r, okvp_n, okvp_z, okvp_z0, okvp_z1, bi_narp, am_nar0p, am_nar1p, bi_0, bi_1, true_and, and_true]
    exact hq
end LW
