/-! THE CLASS, 15: texts on the shelf; what changes only scratch rows -/
def alw (s : RS) (land use size m : Int32) (ch : Int64) : Bool := ((((hldB s.la land && hldB s.us use) && !decide (s.mo < size)) && !decide (m < s.fr)) && !decide (s.to < m)) && decide (s.sh &&& ch = 0)
/-- all but the rows parents, chain and recalled is the same -/
def Scr (σ τ : am_H) : Prop := SH τ ∧ τ.1 = σ.1 ∧ τ.2.1 = σ.2.1 ∧ ∀ a, ¬ a = 4 → ¬ a = 15 → ¬ a = 21 → am_get τ a = am_get σ a
section SC
variable {σ τ ρ : am_H} {a ci k : Nat}
theorem Scr_refl (h : SH σ) : Scr σ σ := ⟨h, rfl, rfl, fun _ _ _ _ => rfl⟩
theorem Scr_trans (h1 : Scr σ τ) (h2 : Scr τ ρ) : Scr σ ρ := ⟨h2.1, h2.2.1.trans h1.2.1, h2.2.2.1.trans h1.2.2.1, fun a x y z => (h2.2.2.2 a x y z).trans (h1.2.2.2 a x y z)⟩
theorem Scr_par (h : SH σ) (f : Nat → Int32) : Scr σ (aPar σ f) := ⟨SH_aPar h f, rfl, rfl, fun _ x _ _ => get_set_ne x⟩
theorem Scr_chn (h : SH σ) (f : Nat → Int32) : Scr σ (aChn σ f) := ⟨SH_aChn h f, rfl, rfl, fun _ _ x _ => get_set_ne x⟩
theorem Scr_rec (h : SH σ) (g : Nat → Int64) : Scr σ (aRec σ g) := ⟨SH_aRec h g, rfl, rfl, fun _ _ _ x => get_set_ne x⟩
theorem Scr_fld (h : Scr σ τ) (x : ¬ a = 4) (y : ¬ a = 15) (z : ¬ a = 21) : am_fld τ a ci k = am_fld σ a ci k := by simp only [am_fld, h.2.2.2 a x y z]
theorem Scr_gi (h : Scr σ τ) (x : ¬ a = 4) (y : ¬ a = 15) (z : ¬ a = 21) : gi τ a ci k = gi σ a ci k := by unfold gi; rw [Scr_fld h x y z]
theorem Scr_ga (h : Scr σ τ) (x : ¬ a = 4) (y : ¬ a = 15) (z : ¬ a = 21) : ga τ a = ga σ a := by simp only [ga, am_j, h.2.2.2 a x y z]
theorem Scr_gL (h : Scr σ τ) (x : ¬ a = 4) (y : ¬ a = 15) (z : ¬ a = 21) : gL τ a = gL σ a := by simp only [gL, am_lv, h.2.2.2 a x y z]
theorem Scr_gq (h : Scr σ τ) (x : ¬ a = 4) (y : ¬ a = 15) (z : ¬ a = 21) : gq τ a = gq σ a := by simp only [gq, am_q, h.2.2.2 a x y z]
end SC
section A11
variable {σ : am_H} {Q : Option Value → am_H → Prop} {n : Nat}
theorem T_allow {a : Nat} {s : RS} (h : am_get σ a = some (rTm s)) (land use size m : Int32) (ch : Int64) : ax k_Terms_allow 0 [some (.ref a), some (.int land), some (.int use), some (.int size), some (.int m), some (.long ch), none] [] σ Q = Q (some (.int (bi (alw s land use size m ch)))) σ := by
  have h' : am_get σ a = some (am_ob 8 [.long s.la, .long s.us, .int s.fr, .int s.to, .int s.mo, .long s.sh]) := h
  have f0 : am_fld σ a 8 0 = some (.long s.la) := fld_get h'
  have f1 : am_fld σ a 8 1 = some (.long s.us) := fld_get h'
  have f2 : am_fld σ a 8 2 = some (.int s.fr) := fld_get h'
  have f3 : am_fld σ a 8 3 = some (.int s.to) := fld_get h'
  have f4 : am_fld σ a 8 4 = some (.int s.mo) := fld_get h'
  have f5 : am_fld σ a 8 5 = some (.long s.sh) := fld_get h'
  simp only [s_Terms_allow_0, s_Terms_allow_1, s_Terms_allow_4, s_Terms_allow_5, s_Terms_allow_8, s_Terms_allow_11, s_Terms_allow_12, s_Terms_allow_15, s_Terms_allow_16, s_Terms_allow_19, s_Terms_allow_22, s_Terms_allow_23, s_Terms_allow_24, s_Terms_allow_27, s_Terms_allow_30, s_Terms_allow_32, s_Terms_allow_33, s_Terms_allow_36, s_Terms_allow_39, s_Terms_allow_41, s_Terms_allow_42, s_Terms_allow_45, s_Terms_allow_48, s_Terms_allow_49, s_Terms_allow_52, s_Terms_allow_54, s_Terms_allow_55, s_Terms_allow_56, s_Terms_allow_57, s_Terms_allow_60, s_Terms_allow_61, s_Terms_allow_64, s_Terms_allow_65, ↓reduceIte, Nat.reduceEqDiff, Nat.reduceLT, am_top, ax_f_some, ax_k_some, ax_k_none, s8_0, s8_1, s8_2, s8_3, s8_4, c2p_n, c2p_i, c2p_r, c2p_z, okvp_i, okvp_l, okvp_r, okvp_n, okvp_z, okvp_z0, okvp_z1, bi_narp, am_nar0p, am_nar1p, bi_0, bi_1, true_and, and_true, f0, f1, f2, f3, f4, f5, A_holds, lgc, alw]
  cases hldB s.la land <;> cases hldB s.us use <;> by_cases c1 : s.mo < size <;> by_cases c2 : m < s.fr <;> by_cases c3 : s.to < m <;> by_cases c4 : s.sh &&& ch = 0 <;> simp [c1, c2, c3, c4, bi]
theorem Sh_hasRoom (h : SH σ) (x : Int32) : ax k_Shelf_hasRoom 0 [some (.ref 33), some (.int x)] [] σ Q = Q (some (.int (bi (ltB x (nI 40) && decide (ga σ 35 x.toNatClampNeg < 3))))) σ := by
  by_cases c : ltB x (nI 40) = true
  · obtain ⟨j, hj, rfl⟩ := ltB_ix (by omega) c
    have hp : ¬ nI j < 0 := nI_pos (by omega)
    have hc : nI j < nI 40 := nI_lt hj (by omega)
    have hix := ix_nI hj (by omega)
    have hcl : (nI j).toNatClampNeg = j := nI_clamp (by omega)
    simp only [s_Shelf_hasRoom_0, s_Shelf_hasRoom_1, s_Shelf_hasRoom_4, s_Shelf_hasRoom_5, s_Shelf_hasRoom_6, s_Shelf_hasRoom_9, s_Shelf_hasRoom_10, s_Shelf_hasRoom_13, s_Shelf_hasRoom_14, s_Shelf_hasRoom_17, s_Shelf_hasRoom_18, s_Shelf_hasRoom_19, s_Shelf_hasRoom_20, s_Shelf_hasRoom_23, s_Shelf_hasRoom_24, s_Shelf_hasRoom_27, s_Shelf_hasRoom_28, ↓reduceIte, Nat.reduceEqDiff, Nat.reduceLT, am_top, ax_f_some, ax_k_some, ax_k_none, s8_0, s8_1, s8_2, s8_3, s8_4, c2p_n, c2p_i, c2p_r, c2p_z, okvp_i, okvp_l, okvp_r, okvp_n, okvp_z, okvp_z0, okvp_z1, bi_narp, am_nar0p, am_nar1p, bi_0, bi_1, true_and, and_true, r_33_0 h, r_33_1 h, o_33 h, j_35 h, n_35 h, ofNat_nI, hp, hc, hix, hcl, c, Bool.true_and]
    by_cases c2 : ga σ 35 j < 3 <;> simp [c2, bi]
  · have c' : ltB x (nI 40) = false := by simpa using c
    simp only [s_Shelf_hasRoom_0, s_Shelf_hasRoom_1, s_Shelf_hasRoom_4, s_Shelf_hasRoom_5, s_Shelf_hasRoom_6, s_Shelf_hasRoom_9, s_Shelf_hasRoom_10, s_Shelf_hasRoom_13, s_Shelf_hasRoom_14, s_Shelf_hasRoom_17, s_Shelf_hasRoom_18, s_Shelf_hasRoom_19, s_Shelf_hasRoom_20, s_Shelf_hasRoom_23, s_Shelf_hasRoom_24, s_Shelf_hasRoom_27, s_Shelf_hasRoom_28, ↓reduceIte, Nat.reduceEqDiff, Nat.reduceLT, am_top, ax_f_some, ax_k_some, ax_k_none, s8_0, s8_1, s8_2, s8_3, s8_4, c2p_n, c2p_i, c2p_r, c2p_z, okvp_i, okvp_l, okvp_r, okvp_n, okvp_z, okvp_z0, okvp_z1, bi_narp, am_nar0p, am_nar1p, bi_0, bi_1, true_and, and_true, r_33_0 h, r_33_1 h, o_33 h, j_35 h, n_35 h, ofNat_nI, c', Bool.false_and]
    by_cases c2 : x < 0
    · simp [c2, bi]
    · have c3 : ¬ x < nI 40 := by
        intro z
        simp [ltB, c2, z] at c'
      simp [c2, c3, bi]
def aSh (σ : am_H) (i k T : Nat) : am_H := am_set (am_set σ 34 (am_qa 8 120 (va_up (gq σ 34) (i * 3 + k) (some T)))) 35 (am_ia 0 40 (upd (ga σ 35) i (nI (k + 1))))
theorem Sh_add (h : SH σ) {i k T : Nat} (hi : i < 40) (hk : k < 3) (hc : ga σ 35 i = nI k) (hT : am_is σ T 8) (hT2 : T < am_top) : ax k_Shelf_add 0 [some (.ref 33), some (.int (nI i)), some (.ref T)] [] σ Q = Q (some (.int (nI (k + 1)))) (aSh σ i k T) := by
  have hix := ix_nI hi (by omega)
  have hcl : (nI i).toNatClampNeg = i := nI_clamp (by omega)
  have hix2 := ix_nI (show i * 3 + k < 120 by omega) (by omega)
  have hcl2 : (nI (i * 3 + k)).toNatClampNeg = i * 3 + k := nI_clamp (by omega)
  have b1 := ltB_nI hi (show 40 < 2 ^ 31 by decide)
  have b2 : nI k < nI 3 := nI_lt hk (by omega)
  have go : ax k_Shelf_add 0 [some (.ref 33), some (.int (nI i)), some (.ref T)] [] σ Q = ax k_Shelf_add 25 [some (.ref 33), some (.int (nI i)), some (.ref T)] [.ref T, .int (nI (i * 3 + k)), .ref 34] σ Q := by
    simp only [s_Shelf_add_0, s_Shelf_add_1, s_Shelf_add_2, s_Shelf_add_5, s_Shelf_add_8, s_Shelf_add_9, s_Shelf_add_10, s_Shelf_add_11, s_Shelf_add_14, s_Shelf_add_15, s_Shelf_add_16, s_Shelf_add_17, s_Shelf_add_18, s_Shelf_add_21, s_Shelf_add_22, s_Shelf_add_23, s_Shelf_add_24, s_Shelf_add_24n, s_Shelf_add_26, s_Shelf_add_27, s_Shelf_add_30, s_Shelf_add_31, s_Shelf_add_32, s_Shelf_add_33, s_Shelf_add_34, s_Shelf_add_35, s_Shelf_add_36, s_Shelf_add_37, s_Shelf_add_40, s_Shelf_add_41, s_Shelf_add_42, ↓reduceIte, Nat.reduceEqDiff, Nat.reduceLT, am_top, ax_f_some, ax_k_some, ax_k_none, s8_0, s8_1, s8_2, s8_3, s8_4, c2p_n, c2p_i, c2p_r, c2p_z, okvp_i, okvp_l, okvp_r, okvp_n, okvp_z, okvp_z0, okvp_z1, bi_narp, am_nar0p, am_nar1p, bi_0, bi_1, true_and, and_true, r_33_0 h, r_33_1 h, o_33 h, j_35 h, n_35 h, Sh_hasRoom h, b1, hcl, hc, e3, b2, hix, pk_mul, nI_add, decide_true, Bool.true_and, Bool.true_eq_false]
  rw [go, s_Shelf_add_25 (qv_of_q (q_34 h)) hT (by decide) hT2]
  simp only [s_Shelf_add_0, s_Shelf_add_1, s_Shelf_add_2, s_Shelf_add_5, s_Shelf_add_8, s_Shelf_add_9, s_Shelf_add_10, s_Shelf_add_11, s_Shelf_add_14, s_Shelf_add_15, s_Shelf_add_16, s_Shelf_add_17, s_Shelf_add_18, s_Shelf_add_21, s_Shelf_add_22, s_Shelf_add_23, s_Shelf_add_24, s_Shelf_add_24n, s_Shelf_add_26, s_Shelf_add_27, s_Shelf_add_30, s_Shelf_add_31, s_Shelf_add_32, s_Shelf_add_33, s_Shelf_add_34, s_Shelf_add_35, s_Shelf_add_36, s_Shelf_add_37, s_Shelf_add_40, s_Shelf_add_41, s_Shelf_add_42, ↓reduceIte, Nat.reduceEqDiff, Nat.reduceLT, am_top, ax_f_some, ax_k_some, ax_k_none, s8_0, s8_1, s8_2, s8_3, s8_4, c2p_n, c2p_i, c2p_r, c2p_z, okvp_i, okvp_l, okvp_r, okvp_n, okvp_z, okvp_z0, okvp_z1, bi_narp, am_nar0p, am_nar1p, bi_0, bi_1, true_and, and_true, fld_set_ne, j_set_ne, q_set_ne, lv_set_ne, nv_set_ne, is_set_ne, j_set_eq, lv_set_eq, q_set_eq, nv_set_i, nv_set_l, nv_set_q, fld_put_ne, fld_put_k, fld_put_same, Option.map_some, j_put, q_put, lv_put, nv_put, is_put, put_1, set_1, r_33_0 h, r_33_1 h, o_33 h, j_35 h, n_35 h, hix2, hcl2, hix, hcl, hc, nI_1, pk_us, not_false_eq_true, aSh]
theorem Sh_textAt (h : SH σ) {i k j B : Nat} (hi : i < 40) (hc : ga σ 35 i = nI k) (hk : k ≤ 3) (hj : j < k) (hB : gq σ 34 (i * 3 + j) = some B) : ax k_Shelf_textAt 0 [some (.ref 33), some (.int (nI i)), some (.int (nI j))] [] σ Q = Q (some (.ref B)) σ := by
  have hp : ¬ nI i < 0 := nI_pos (by omega)
  have hp2 : ¬ nI j < 0 := nI_pos (by omega)
  have hc1 : nI i < nI 40 := nI_lt hi (by omega)
  have hc2 : nI j < nI k := nI_lt hj (by omega)
  have hix := ix_nI hi (by omega)
  have hcl : (nI i).toNatClampNeg = i := nI_clamp (by omega)
  have hix2 := ix_nI (show i * 3 + j < 120 by omega) (by omega)
  have hcl2 : (nI (i * 3 + j)).toNatClampNeg = i * 3 + j := nI_clamp (by omega)
  simp only [s_Shelf_textAt_0, s_Shelf_textAt_1, s_Shelf_textAt_4, s_Shelf_textAt_5, s_Shelf_textAt_6, s_Shelf_textAt_9, s_Shelf_textAt_10, s_Shelf_textAt_13, s_Shelf_textAt_14, s_Shelf_textAt_17, s_Shelf_textAt_18, s_Shelf_textAt_19, s_Shelf_textAt_22, s_Shelf_textAt_23, s_Shelf_textAt_24, s_Shelf_textAt_27, s_Shelf_textAt_28, s_Shelf_textAt_28n, s_Shelf_textAt_29, s_Shelf_textAt_30, s_Shelf_textAt_33, s_Shelf_textAt_34, s_Shelf_textAt_35, s_Shelf_textAt_36, s_Shelf_textAt_37, s_Shelf_textAt_38, s_Shelf_textAt_39, s_Shelf_textAt_39n, ↓reduceIte, Nat.reduceEqDiff, Nat.reduceLT, am_top, ax_f_some, ax_k_some, ax_k_none, s8_0, s8_1, s8_2, s8_3, s8_4, c2p_n, c2p_i, c2p_r, c2p_z, okvp_i, okvp_l, okvp_r, okvp_n, okvp_z, okvp_z0, okvp_z1, bi_narp, am_nar0p, am_nar1p, bi_0, bi_1, true_and, and_true, r_33_0 h, r_33_1 h, o_33 h, j_35 h, n_35 h, q_34 h, ofNat_nI, hp, hp2, hc1, hc2, hix, hcl, hc, e3, pk_mul, nI_add, hix2, hcl2, hB, va_rf]
theorem Sh_textAt_no (h : SH σ) {i k j : Nat} (hi : i < 40) (hc : ga σ 35 i = nI k) (hk : k ≤ 3) (hj : k ≤ j) (hj2 : j < 100) : ax k_Shelf_textAt 0 [some (.ref 33), some (.int (nI i)), some (.int (nI j))] [] σ Q = Q (some .null) σ := by
  have hp : ¬ nI i < 0 := nI_pos (by omega)
  have hp2 : ¬ nI j < 0 := nI_pos (by omega)
  have hc1 : nI i < nI 40 := nI_lt hi (by omega)
  have hc2 : ¬ nI j < nI k := nI_nlt hj (by omega)
  have hix := ix_nI hi (by omega)
  have hcl : (nI i).toNatClampNeg = i := nI_clamp (by omega)
  simp only [s_Shelf_textAt_0, s_Shelf_textAt_1, s_Shelf_textAt_4, s_Shelf_textAt_5, s_Shelf_textAt_6, s_Shelf_textAt_9, s_Shelf_textAt_10, s_Shelf_textAt_13, s_Shelf_textAt_14, s_Shelf_textAt_17, s_Shelf_textAt_18, s_Shelf_textAt_19, s_Shelf_textAt_22, s_Shelf_textAt_23, s_Shelf_textAt_24, s_Shelf_textAt_27, s_Shelf_textAt_28, s_Shelf_textAt_28n, s_Shelf_textAt_29, s_Shelf_textAt_30, s_Shelf_textAt_33, s_Shelf_textAt_34, s_Shelf_textAt_35, s_Shelf_textAt_36, s_Shelf_textAt_37, s_Shelf_textAt_38, s_Shelf_textAt_39, s_Shelf_textAt_39n, ↓reduceIte, Nat.reduceEqDiff, Nat.reduceLT, am_top, ax_f_some, ax_k_some, ax_k_none, s8_0, s8_1, s8_2, s8_3, s8_4, c2p_n, c2p_i, c2p_r, c2p_z, okvp_i, okvp_l, okvp_r, okvp_n, okvp_z, okvp_z0, okvp_z1, bi_narp, am_nar0p, am_nar1p, bi_0, bi_1, true_and, and_true, r_33_0 h, r_33_1 h, o_33 h, j_35 h, n_35 h, ofNat_nI, hp, hp2, hc1, hc2, hix, hcl, hc]
/-- the texts of picture i: k of them, the j-th at B j, saying tm j -/
def TxtAt (σ : am_H) (i k : Nat) (tm : Nat → RS) : Prop := k ≤ 3 ∧ ga σ 35 i = nI k ∧ ∀ j, j < k → ∃ B, gq σ 34 (i * 3 + j) = some B ∧ am_get σ B = some (rTm (tm j)) ∧ 83 ≤ B
def txtB (k : Nat) (tm : Nat → RS) (land use size m : Int32) (ch : Int64) (j : Nat) : Bool := decide (j < k) && !alw (tm j) land use size m ch
theorem A_text_loop (h : SH σ) {i k : Nat} {tm : Nat → RS} (hi : i < 40) (hX : TxtAt σ i k tm) (land use size be : Int32) (ch : Int64) : ∀ c j, j + c = 3 → ∀ z : Option Value, ax k_A_textAgainst 18 [some (.ref 0), some (.int (nI i)), some (.int land), some (.int use), some (.int size), some (.int be), some (.long ch), none, some (.int (nI j)), z] [] σ Q = Q (some (.int (oI (fstR (txtB k tm land use size (gi σ 0 10 11) ch) j c)))) σ := by
  obtain ⟨hk, hc, hB⟩ := hX
  intro c
  induction c with
  | zero =>
    intro j hj z
    have hj : j = 3 := by omega
    subst hj
    have hc2 : ¬ nI 3 < nI 3 := Int32.lt_irrefl
    rw [s_A_textAgainst_18]
    simp only [s_A_textAgainst_0, s_A_textAgainst_1, s_A_textAgainst_4, s_A_textAgainst_6, s_A_textAgainst_7, s_A_textAgainst_10, s_A_textAgainst_13, s_A_textAgainst_15, s_A_textAgainst_16, s_A_textAgainst_20, s_A_textAgainst_21, s_A_textAgainst_24, s_A_textAgainst_25, s_A_textAgainst_28, s_A_textAgainst_29, s_A_textAgainst_31, s_A_textAgainst_34, s_A_textAgainst_34n, s_A_textAgainst_36, s_A_textAgainst_36n, s_A_textAgainst_38n, s_A_textAgainst_38, s_A_textAgainst_41, s_A_textAgainst_41n, s_A_textAgainst_43, s_A_textAgainst_44, s_A_textAgainst_45, s_A_textAgainst_47, s_A_textAgainst_48, s_A_textAgainst_51, s_A_textAgainst_53, s_A_textAgainst_56, s_A_textAgainst_59, s_A_textAgainst_61, s_A_textAgainst_62, s_A_textAgainst_65, s_A_textAgainst_68, s_A_textAgainst_69, ↓reduceIte, Nat.reduceEqDiff, Nat.reduceLT, am_top, ax_f_some, ax_k_some, ax_k_none, s8_0, s8_1, s8_2, s8_3, s8_4, c2p_n, c2p_i, c2p_r, c2p_z, okvp_i, okvp_l, okvp_r, okvp_n, okvp_z, okvp_z0, okvp_z1, bi_narp, am_nar0p, am_nar1p, bi_0, bi_1, true_and, and_true, e3, hc2, fstR, oI, Option.elim_none]
  | succ c ih =>
    intro j hj z
    have hc2 : nI j < nI 3 := nI_lt (by omega) (by omega)
    rw [s_A_textAgainst_18]
    by_cases c1 : j < k
    · obtain ⟨B, b1, b2, b3⟩ := hB j c1
      have ih := ih (j + 1) (by omega) (some (.ref B))
      have ob : am_is σ B 8 = True := eq_true ⟨_, b2⟩
      simp only [s_A_textAgainst_0, s_A_textAgainst_1, s_A_textAgainst_4, s_A_textAgainst_6, s_A_textAgainst_7, s_A_textAgainst_10, s_A_textAgainst_13, s_A_textAgainst_15, s_A_textAgainst_16, s_A_textAgainst_20, s_A_textAgainst_21, s_A_textAgainst_24, s_A_textAgainst_25, s_A_textAgainst_28, s_A_textAgainst_29, s_A_textAgainst_31, s_A_textAgainst_34, s_A_textAgainst_34n, s_A_textAgainst_36, s_A_textAgainst_36n, s_A_textAgainst_38n, s_A_textAgainst_38, s_A_textAgainst_41, s_A_textAgainst_41n, s_A_textAgainst_43, s_A_textAgainst_44, s_A_textAgainst_45, s_A_textAgainst_47, s_A_textAgainst_48, s_A_textAgainst_51, s_A_textAgainst_53, s_A_textAgainst_56, s_A_textAgainst_59, s_A_textAgainst_61, s_A_textAgainst_62, s_A_textAgainst_65, s_A_textAgainst_68, s_A_textAgainst_69, ↓reduceIte, Nat.reduceEqDiff, Nat.reduceLT, am_top, ax_f_some, ax_k_some, ax_k_none, s8_0, s8_1, s8_2, s8_3, s8_4, c2p_n, c2p_i, c2p_r, c2p_z, okvp_i, okvp_l, okvp_r, okvp_n, okvp_z, okvp_z0, okvp_z1, bi_narp, am_nar0p, am_nar1p, bi_0, bi_1, true_and, and_true, r_0_0 h, r_0_1 h, r_0_2 h, r_0_3 h, r_0_4 h, r_0_5 h, r_0_6 h, r_0_7 h, r_0_8 h, r_0_9 h, i_0_10 h, i_0_11 h, o_0 h, r_33_0 h, r_33_1 h, o_33 h, e3, hc2, Sh_textAt h hi hc hk c1 b1, T_allow b2, ob, nI_1, ih]
      cases c2 : alw (tm j) land use size (gi σ 0 10 11) ch <;> simp [fstR, txtB, c1, c2, oI]
    · have ih := ih (j + 1) (by omega) (some .null)
      simp only [s_A_textAgainst_0, s_A_textAgainst_1, s_A_textAgainst_4, s_A_textAgainst_6, s_A_textAgainst_7, s_A_textAgainst_10, s_A_textAgainst_13, s_A_textAgainst_15, s_A_textAgainst_16, s_A_textAgainst_20, s_A_textAgainst_21, s_A_textAgainst_24, s_A_textAgainst_25, s_A_textAgainst_28, s_A_textAgainst_29, s_A_textAgainst_31, s_A_textAgainst_34, s_A_textAgainst_34n, s_A_textAgainst_36, s_A_textAgainst_36n, s_A_textAgainst_38n, s_A_textAgainst_38, s_A_textAgainst_41, s_A_textAgainst_41n, s_A_textAgainst_43, s_A_textAgainst_44, s_A_textAgainst_45, s_A_textAgainst_47, s_A_textAgainst_48, s_A_textAgainst_51, s_A_textAgainst_53, s_A_textAgainst_56, s_A_textAgainst_59, s_A_textAgainst_61, s_A_textAgainst_62, s_A_textAgainst_65, s_A_textAgainst_68, s_A_textAgainst_69, ↓reduceIte, Nat.reduceEqDiff, Nat.reduceLT, am_top, ax_f_some, ax_k_some, ax_k_none, s8_0, s8_1, s8_2, s8_3, s8_4, c2p_n, c2p_i, c2p_r, c2p_z, okvp_i, okvp_l, okvp_r, okvp_n, okvp_z, okvp_z0, okvp_z1, bi_narp, am_nar0p, am_nar1p, bi_0, bi_1, true_and, and_true, r_0_0 h, r_0_1 h, r_0_2 h, r_0_3 h, r_0_4 h, r_0_5 h, r_0_6 h, r_0_7 h, r_0_8 h, r_0_9 h, i_0_10 h, i_0_11 h, o_0 h, r_33_0 h, r_33_1 h, o_33 h, e3, hc2, Sh_textAt_no h hi hc hk (Nat.not_lt.mp c1) (show j < 100 by omega), nI_1, ih]
      simp [fstR, txtB, c1]
def perB (σ : am_H) (nl i q : Nat) : Bool := hldB (ga σ 12 i).toInt64 (nI q) && decide (latF (ga σ 23) (ga σ 24) (ga σ 25) (nI q) (gi σ 0 10 11) 1 nl = 0)
theorem A_person_loop (h : SH σ) {nl : Nat} (hl : gi σ 22 3 3 = nI nl) (hnl : nl ≤ 100) {i : Nat} (pic : Int32) : ∀ c q, q + c = 16 → ax k_A_personAgainst 11 [some (.ref 0), some (.int pic), some (.int (ga σ 12 i)), some (.int (nI q))] [] σ Q = Q (some (.int (oI (fstR (perB σ nl i) q c)))) σ := by
  intro c
  induction c with
  | zero =>
    intro q hq
    have hq : q = 16 := by omega
    subst hq
    have hc2 : ¬ nI 16 < nI 16 := Int32.lt_irrefl
    rw [s_A_personAgainst_11]
    simp only [s_A_personAgainst_0, s_A_personAgainst_1, s_A_personAgainst_4, s_A_personAgainst_5, s_A_personAgainst_8, s_A_personAgainst_9, s_A_personAgainst_10, s_A_personAgainst_12, s_A_personAgainst_14, s_A_personAgainst_17, s_A_personAgainst_18, s_A_personAgainst_19, s_A_personAgainst_20, s_A_personAgainst_23, s_A_personAgainst_26, s_A_personAgainst_27, s_A_personAgainst_30, s_A_personAgainst_31, s_A_personAgainst_32, s_A_personAgainst_35, s_A_personAgainst_36, s_A_personAgainst_39, s_A_personAgainst_42, s_A_personAgainst_43, s_A_personAgainst_44, s_A_personAgainst_47, s_A_personAgainst_50, s_A_personAgainst_51, ↓reduceIte, Nat.reduceEqDiff, Nat.reduceLT, am_top, ax_f_some, ax_k_some, ax_k_none, s8_0, s8_1, s8_2, s8_3, s8_4, c2p_n, c2p_i, c2p_r, c2p_z, okvp_i, okvp_l, okvp_r, okvp_n, okvp_z, okvp_z0, okvp_z1, bi_narp, am_nar0p, am_nar1p, bi_0, bi_1, true_and, and_true, e16, hc2, fstR, oI, Option.elim_none]
  | succ c ih =>
    intro q hq
    have ih := ih (q + 1) (by omega)
    have hc2 : nI q < nI 16 := nI_lt (by omega) (by omega)
    rw [s_A_personAgainst_11]
    simp only [s_A_personAgainst_0, s_A_personAgainst_1, s_A_personAgainst_4, s_A_personAgainst_5, s_A_personAgainst_8, s_A_personAgainst_9, s_A_personAgainst_10, s_A_personAgainst_12, s_A_personAgainst_14, s_A_personAgainst_17, s_A_personAgainst_18, s_A_personAgainst_19, s_A_personAgainst_20, s_A_personAgainst_23, s_A_personAgainst_26, s_A_personAgainst_27, s_A_personAgainst_30, s_A_personAgainst_31, s_A_personAgainst_32, s_A_personAgainst_35, s_A_personAgainst_36, s_A_personAgainst_39, s_A_personAgainst_42, s_A_personAgainst_43, s_A_personAgainst_44, s_A_personAgainst_47, s_A_personAgainst_50, s_A_personAgainst_51, ↓reduceIte, Nat.reduceEqDiff, Nat.reduceLT, am_top, ax_f_some, ax_k_some, ax_k_none, s8_0, s8_1, s8_2, s8_3, s8_4, c2p_n, c2p_i, c2p_r, c2p_z, okvp_i, okvp_l, okvp_r, okvp_n, okvp_z, okvp_z0, okvp_z1, bi_narp, am_nar0p, am_nar1p, bi_0, bi_1, true_and, and_true, r_0_0 h, r_0_1 h, r_0_2 h, r_0_3 h, r_0_4 h, r_0_5 h, r_0_6 h, r_0_7 h, r_0_8 h, r_0_9 h, i_0_10 h, i_0_11 h, o_0 h, r_22_0 h, r_22_1 h, r_22_2 h, i_22_3 h, o_22 h, e16, hc2, A_holds, Log_latest (LogLea h hl hnl), nI_1, ih]
    cases c1 : hldB (ga σ 12 i).toInt64 (nI q)
    · simp [fstR, perB, c1]
    · by_cases c2 : latF (ga σ 23) (ga σ 24) (ga σ 25) (nI q) (gi σ 0 10 11) 1 nl = 0 <;> simp [fstR, perB, c1, c2, oI]
theorem A_person (h : SH σ) (hn : gi σ 9 0 6 = nI n) (hle : n ≤ 40) {nl : Nat} (hl : gi σ 22 3 3 = nI nl) (hnl : nl ≤ 100) {i : Nat} (hi : i < n) : ax k_A_personAgainst 0 [some (.ref 0), some (.int (nI i)), none, none] [] σ Q = Q (some (.int (oI (fstR (perB σ nl i) 0 16)))) σ := by
  have hlp := A_person_loop (Q := Q) h hl hnl (i := i) (nI i) 16 0 (by omega)
  rw [nI_0] at hlp
  have b := ltB_nI hi (show n < 2 ^ 31 by omega)
  have hcl : (nI i).toNatClampNeg = i := nI_clamp (by omega)
  simp only [s_A_personAgainst_0, s_A_personAgainst_1, s_A_personAgainst_4, s_A_personAgainst_5, s_A_personAgainst_8, s_A_personAgainst_9, s_A_personAgainst_10, s_A_personAgainst_12, s_A_personAgainst_14, s_A_personAgainst_17, s_A_personAgainst_18, s_A_personAgainst_19, s_A_personAgainst_20, s_A_personAgainst_23, s_A_personAgainst_26, s_A_personAgainst_27, s_A_personAgainst_30, s_A_personAgainst_31, s_A_personAgainst_32, s_A_personAgainst_35, s_A_personAgainst_36, s_A_personAgainst_39, s_A_personAgainst_42, s_A_personAgainst_43, s_A_personAgainst_44, s_A_personAgainst_47, s_A_personAgainst_50, s_A_personAgainst_51, ↓reduceIte, Nat.reduceEqDiff, Nat.reduceLT, am_top, ax_f_some, ax_k_some, ax_k_none, s8_0, s8_1, s8_2, s8_3, s8_4, c2p_n, c2p_i, c2p_r, c2p_z, okvp_i, okvp_l, okvp_r, okvp_n, okvp_z, okvp_z0, okvp_z1, bi_narp, am_nar0p, am_nar1p, bi_0, bi_1, true_and, and_true, r_0_0 h, r_0_1 h, r_0_2 h, r_0_3 h, r_0_4 h, r_0_5 h, r_0_6 h, r_0_7 h, r_0_8 h, r_0_9 h, i_0_10 h, i_0_11 h, o_0 h, r_9_0 h, r_9_1 h, r_9_2 h, r_9_3 h, r_9_4 h, r_9_5 h, i_9_6 h, i_9_7 h, o_9 h, Al_personsOn h hn hle, b, hcl]
  exact hlp
end A11
