/-! THE REFERENCE, 7: spread -/
def iniR (g : Nat → Int32) (pic : Int32) : Nat → Nat → Int32
  | 0 => g
  | n + 1 => upd (iniR g pic n) n (if nI n = pic then 1 else 0)
def nearB (lk : Nat → Nat → Bool) (g : Nat → Int32) (p q : Nat) : Bool := !decide (g q = 0) && lk p q
def passF (lk : Nat → Nat → Bool) (np : Nat) : Nat → Nat → (Nat → Int32) → Int32 → (Nat → Int32) × Int32
  | _, 0, g, mo => (g, mo)
  | k, c + 1, g, mo => if g k = 0 ∧ anyR (nearB lk g k) 0 np = true then passF lk np (k + 1) c (upd g k 1) 1 else passF lk np (k + 1) c g mo
def loopF (lk : Nat → Nat → Bool) (np : Nat) : Nat → (Nat → Int32) → Int32 → Option (Nat → Int32)
  | 0, _, _ => none
  | n + 1, g, mo => if mo = 0 then some g else loopF lk np n (passF lk np 0 np g 0).1 (passF lk np 0 np g 0).2
def mLk (σ : am_H) (i j : Nat) : Bool := !decide (gi σ 40 11 18 < farF (ga σ 48) i j 16)
abbrev mSet (σ : am_H) (g : Nat → Int32) : am_H := am_set σ 59 (am_ia 1 40 g)
theorem SH_mSet {σ : am_H} (h : SH σ) (g : Nat → Int32) : SH (mSet σ g) := SH_set_j h (by decide) (by decide) (by decide) (by decide) (by decide)
section M7
variable {σ : am_H} {Q : Option Value → am_H → Prop} {np : Nat}
theorem M_spread_q (h : SH σ) (hp : gi σ 40 11 7 = nI np) (hnp : np ≤ 40) (pic mo : Int32) (g : Nat → Int32) {p : Nat} (hpp : p < np) (hg : g p = 0) (A : Prop) :
    ∀ j q, q + j = np → (∀ z : Option Value, (if anyR (nearB (mLk σ) g p) q j = true then ax k_M_spread 113 [some (.ref 40), some (.int pic), some (.int 1), some (.int (nI p)), z] [] (mSet σ (upd g p 1)) Q else ax k_M_spread 113 [some (.ref 40), some (.int pic), some (.int mo), some (.int (nI p)), z] [] (mSet σ g) Q) = A) → ax k_M_spread 53 [some (.ref 40), some (.int pic), some (.int mo), some (.int (nI p)), some (.int (nI q))] [] (mSet σ g) Q = A := by
  have hs := SH_mSet h g
  have hs2 := SH_mSet h (upd g p 1)
  have g1 : gi (mSet σ g) 40 11 7 = nI np := by rw [gi_set_ne (by decide)]; exact hp
  have g2 : gi (mSet σ (upd g p 1)) 40 11 7 = nI np := by rw [gi_set_ne (by decide)]; exact hp
  have g3 : gi (mSet σ g) 40 11 18 = gi σ 40 11 18 := gi_set_ne (by decide)
  have g4 : ga (mSet σ g) 48 = ga σ 48 := ga_set_ne (by decide)
  have g5 : ga (mSet σ g) 59 = g := ga_set_eq
  have g6 : ga (mSet σ (upd g p 1)) 59 = upd g p 1 := ga_set_eq
  have hixp := ix_nI (show p < 40 by omega) (by omega)
  have hclp : (nI p).toNatClampNeg = p := nI_clamp (by omega)
  have hup : upd g p 1 p = 1 := pk_us
  have ne10 : ((1 : Int32) = 0) = False := eq_false (by decide)
  intro j
  induction j with
  | zero =>
    intro q hq hA
    have hq : q = np := by omega
    subst hq
    have hc : ¬ nI q < nI q := Int32.lt_irrefl
    simp only [anyR, Bool.false_eq_true, ↓reduceIte] at hA
    rw [s_M_spread_53]
    simp only [s_M_spread_0, s_M_spread_1, s_M_spread_3, s_M_spread_4, s_M_spread_7, s_M_spread_10, s_M_spread_11, s_M_spread_14, s_M_spread_15, s_M_spread_16, s_M_spread_17, s_M_spread_20, s_M_spread_21, s_M_spread_24, s_M_spread_25, s_M_spread_26, s_M_spread_29, s_M_spread_32, s_M_spread_33, s_M_spread_35, s_M_spread_38, s_M_spread_39, s_M_spread_40, s_M_spread_41, s_M_spread_43, s_M_spread_44, s_M_spread_47, s_M_spread_50, s_M_spread_51, s_M_spread_55, s_M_spread_56, s_M_spread_59, s_M_spread_62, s_M_spread_63, s_M_spread_66, s_M_spread_67, s_M_spread_68, s_M_spread_71, s_M_spread_72, s_M_spread_75, s_M_spread_77, s_M_spread_78, s_M_spread_81, s_M_spread_82, s_M_spread_83, s_M_spread_85, s_M_spread_88, s_M_spread_89, s_M_spread_92, s_M_spread_95, s_M_spread_98, s_M_spread_99, s_M_spread_102, s_M_spread_103, s_M_spread_104, s_M_spread_105, s_M_spread_106, s_M_spread_107, s_M_spread_110, s_M_spread_116, s_M_spread_119, s_M_spread_122, ↓reduceIte, Nat.reduceEqDiff, Nat.reduceLT, am_top, ax_f_some, ax_k_some, ax_k_none, s8_0, s8_1, s8_2, s8_3, s8_4, c2p_n, c2p_i, c2p_r, c2p_z, okvp_i, okvp_l, okvp_r, okvp_n, okvp_z, okvp_z0, okvp_z1, bi_narp, am_nar0p, am_nar1p, bi_0, bi_1, true_and, and_true, i_40_0 hs, i_40_1 hs, i_40_2 hs, i_40_3 hs, r_40_4 hs, r_40_5 hs, r_40_6 hs, i_40_7 hs, r_40_8 hs, r_40_9 hs, r_40_10 hs, r_40_11 hs, r_40_12 hs, i_40_13 hs, r_40_14 hs, r_40_15 hs, r_40_16 hs, r_40_17 hs, i_40_18 hs, i_40_19 hs, r_40_20 hs, r_40_21 hs, r_40_22 hs, i_40_23 hs, r_40_24 hs, r_40_25 hs, r_40_26 hs, r_40_27 hs, r_40_28 hs, i_40_29 hs, r_40_30 hs, r_40_31 hs, r_40_32 hs, r_40_33 hs, r_40_34 hs, r_40_35 hs, r_40_36 hs, r_40_37 hs, i_40_38 hs, i_40_39 hs, i_40_40 hs, i_40_41 hs, i_40_42 hs, i_40_43 hs, i_40_44 hs, i_40_45 hs, r_40_46 hs, r_40_47 hs, r_40_48 hs, r_40_49 hs, r_40_50 hs, r_40_51 hs, r_40_52 hs, r_40_53 hs, r_40_54 hs, r_40_55 hs, r_40_56 hs, r_40_57 hs, r_40_58 hs, i_40_59 hs, i_40_60 hs, r_40_61 hs, o_40 hs, j_59 hs, n_59 hs, g1, hc]
    exact hA _
  | succ j ih =>
    intro q hq hA
    have ih := ih (q + 1) (by omega)
    have hc : nI q < nI np := nI_lt (by omega) (by omega)
    have hix := ix_nI (show q < 40 by omega) (by omega)
    have hcl : (nI q).toNatClampNeg = q := nI_clamp (by omega)
    rw [s_M_spread_53]
    simp only [s_M_spread_0, s_M_spread_1, s_M_spread_3, s_M_spread_4, s_M_spread_7, s_M_spread_10, s_M_spread_11, s_M_spread_14, s_M_spread_15, s_M_spread_16, s_M_spread_17, s_M_spread_20, s_M_spread_21, s_M_spread_24, s_M_spread_25, s_M_spread_26, s_M_spread_29, s_M_spread_32, s_M_spread_33, s_M_spread_35, s_M_spread_38, s_M_spread_39, s_M_spread_40, s_M_spread_41, s_M_spread_43, s_M_spread_44, s_M_spread_47, s_M_spread_50, s_M_spread_51, s_M_spread_55, s_M_spread_56, s_M_spread_59, s_M_spread_62, s_M_spread_63, s_M_spread_66, s_M_spread_67, s_M_spread_68, s_M_spread_71, s_M_spread_72, s_M_spread_75, s_M_spread_77, s_M_spread_78, s_M_spread_81, s_M_spread_82, s_M_spread_83, s_M_spread_85, s_M_spread_88, s_M_spread_89, s_M_spread_92, s_M_spread_95, s_M_spread_98, s_M_spread_99, s_M_spread_102, s_M_spread_103, s_M_spread_104, s_M_spread_105, s_M_spread_106, s_M_spread_107, s_M_spread_110, s_M_spread_116, s_M_spread_119, s_M_spread_122, ↓reduceIte, Nat.reduceEqDiff, Nat.reduceLT, am_top, ax_f_some, ax_k_some, ax_k_none, s8_0, s8_1, s8_2, s8_3, s8_4, c2p_n, c2p_i, c2p_r, c2p_z, okvp_i, okvp_l, okvp_r, okvp_n, okvp_z, okvp_z0, okvp_z1, bi_narp, am_nar0p, am_nar1p, bi_0, bi_1, true_and, and_true, i_40_0 hs, i_40_1 hs, i_40_2 hs, i_40_3 hs, r_40_4 hs, r_40_5 hs, r_40_6 hs, i_40_7 hs, r_40_8 hs, r_40_9 hs, r_40_10 hs, r_40_11 hs, r_40_12 hs, i_40_13 hs, r_40_14 hs, r_40_15 hs, r_40_16 hs, r_40_17 hs, i_40_18 hs, i_40_19 hs, r_40_20 hs, r_40_21 hs, r_40_22 hs, i_40_23 hs, r_40_24 hs, r_40_25 hs, r_40_26 hs, r_40_27 hs, r_40_28 hs, i_40_29 hs, r_40_30 hs, r_40_31 hs, r_40_32 hs, r_40_33 hs, r_40_34 hs, r_40_35 hs, r_40_36 hs, r_40_37 hs, i_40_38 hs, i_40_39 hs, i_40_40 hs, i_40_41 hs, i_40_42 hs, i_40_43 hs, i_40_44 hs, i_40_45 hs, r_40_46 hs, r_40_47 hs, r_40_48 hs, r_40_49 hs, r_40_50 hs, r_40_51 hs, r_40_52 hs, r_40_53 hs, r_40_54 hs, r_40_55 hs, r_40_56 hs, r_40_57 hs, r_40_58 hs, i_40_59 hs, i_40_60 hs, r_40_61 hs, o_40 hs, j_59 hs, n_59 hs, g1, g3, g5, hc, hix, hcl, hixp, hclp, hg, true_or, M_farOf hs (show p < 40 by omega) (show q < 40 by omega), g4, nI_1, or_true, set_set]
    by_cases c1 : g q = 0
    · have e : anyR (nearB (mLk σ) g p) q (j + 1) = anyR (nearB (mLk σ) g p) (q + 1) j := by simp [anyR, nearB, c1]
      rw [e] at hA
      rw [if_pos c1]
      exact ih hA
    · by_cases c2 : gi σ 40 11 18 < farF (ga σ 48) p q 16
      · have e : anyR (nearB (mLk σ) g p) q (j + 1) = anyR (nearB (mLk σ) g p) (q + 1) j := by simp [anyR, nearB, mLk, c2]
        rw [e] at hA
        rw [if_neg c1, if_pos c2]
        exact ih hA
      · have e : anyR (nearB (mLk σ) g p) q (j + 1) = true := by simp [anyR, nearB, mLk, c1, c2]
        simp only [e, ↓reduceIte] at hA
        rw [if_neg c1, if_neg c2]
        rw [s_M_spread_53]
        by_cases hc3 : q + 1 = np
        · have hc4 : ¬ nI (q + 1) < nI np := nI_nlt (by omega) (by omega)
          simp only [s_M_spread_0, s_M_spread_1, s_M_spread_3, s_M_spread_4, s_M_spread_7, s_M_spread_10, s_M_spread_11, s_M_spread_14, s_M_spread_15, s_M_spread_16, s_M_spread_17, s_M_spread_20, s_M_spread_21, s_M_spread_24, s_M_spread_25, s_M_spread_26, s_M_spread_29, s_M_spread_32, s_M_spread_33, s_M_spread_35, s_M_spread_38, s_M_spread_39, s_M_spread_40, s_M_spread_41, s_M_spread_43, s_M_spread_44, s_M_spread_47, s_M_spread_50, s_M_spread_51, s_M_spread_55, s_M_spread_56, s_M_spread_59, s_M_spread_62, s_M_spread_63, s_M_spread_66, s_M_spread_67, s_M_spread_68, s_M_spread_71, s_M_spread_72, s_M_spread_75, s_M_spread_77, s_M_spread_78, s_M_spread_81, s_M_spread_82, s_M_spread_83, s_M_spread_85, s_M_spread_88, s_M_spread_89, s_M_spread_92, s_M_spread_95, s_M_spread_98, s_M_spread_99, s_M_spread_102, s_M_spread_103, s_M_spread_104, s_M_spread_105, s_M_spread_106, s_M_spread_107, s_M_spread_110, s_M_spread_116, s_M_spread_119, s_M_spread_122, ↓reduceIte, Nat.reduceEqDiff, Nat.reduceLT, am_top, ax_f_some, ax_k_some, ax_k_none, s8_0, s8_1, s8_2, s8_3, s8_4, c2p_n, c2p_i, c2p_r, c2p_z, okvp_i, okvp_l, okvp_r, okvp_n, okvp_z, okvp_z0, okvp_z1, bi_narp, am_nar0p, am_nar1p, bi_0, bi_1, true_and, and_true, i_40_0 hs2, i_40_1 hs2, i_40_2 hs2, i_40_3 hs2, r_40_4 hs2, r_40_5 hs2, r_40_6 hs2, i_40_7 hs2, r_40_8 hs2, r_40_9 hs2, r_40_10 hs2, r_40_11 hs2, r_40_12 hs2, i_40_13 hs2, r_40_14 hs2, r_40_15 hs2, r_40_16 hs2, r_40_17 hs2, i_40_18 hs2, i_40_19 hs2, r_40_20 hs2, r_40_21 hs2, r_40_22 hs2, i_40_23 hs2, r_40_24 hs2, r_40_25 hs2, r_40_26 hs2, r_40_27 hs2, r_40_28 hs2, i_40_29 hs2, r_40_30 hs2, r_40_31 hs2, r_40_32 hs2, r_40_33 hs2, r_40_34 hs2, r_40_35 hs2, r_40_36 hs2, r_40_37 hs2, i_40_38 hs2, i_40_39 hs2, i_40_40 hs2, i_40_41 hs2, i_40_42 hs2, i_40_43 hs2, i_40_44 hs2, i_40_45 hs2, r_40_46 hs2, r_40_47 hs2, r_40_48 hs2, r_40_49 hs2, r_40_50 hs2, r_40_51 hs2, r_40_52 hs2, r_40_53 hs2, r_40_54 hs2, r_40_55 hs2, r_40_56 hs2, r_40_57 hs2, r_40_58 hs2, i_40_59 hs2, i_40_60 hs2, r_40_61 hs2, o_40 hs2, j_59 hs2, n_59 hs2, g2, hc4, hA]
        · have hc4 : nI (q + 1) < nI np := nI_lt (by omega) (by omega)
          simp only [s_M_spread_0, s_M_spread_1, s_M_spread_3, s_M_spread_4, s_M_spread_7, s_M_spread_10, s_M_spread_11, s_M_spread_14, s_M_spread_15, s_M_spread_16, s_M_spread_17, s_M_spread_20, s_M_spread_21, s_M_spread_24, s_M_spread_25, s_M_spread_26, s_M_spread_29, s_M_spread_32, s_M_spread_33, s_M_spread_35, s_M_spread_38, s_M_spread_39, s_M_spread_40, s_M_spread_41, s_M_spread_43, s_M_spread_44, s_M_spread_47, s_M_spread_50, s_M_spread_51, s_M_spread_55, s_M_spread_56, s_M_spread_59, s_M_spread_62, s_M_spread_63, s_M_spread_66, s_M_spread_67, s_M_spread_68, s_M_spread_71, s_M_spread_72, s_M_spread_75, s_M_spread_77, s_M_spread_78, s_M_spread_81, s_M_spread_82, s_M_spread_83, s_M_spread_85, s_M_spread_88, s_M_spread_89, s_M_spread_92, s_M_spread_95, s_M_spread_98, s_M_spread_99, s_M_spread_102, s_M_spread_103, s_M_spread_104, s_M_spread_105, s_M_spread_106, s_M_spread_107, s_M_spread_110, s_M_spread_116, s_M_spread_119, s_M_spread_122, ↓reduceIte, Nat.reduceEqDiff, Nat.reduceLT, am_top, ax_f_some, ax_k_some, ax_k_none, s8_0, s8_1, s8_2, s8_3, s8_4, c2p_n, c2p_i, c2p_r, c2p_z, okvp_i, okvp_l, okvp_r, okvp_n, okvp_z, okvp_z0, okvp_z1, bi_narp, am_nar0p, am_nar1p, bi_0, bi_1, true_and, and_true, i_40_0 hs2, i_40_1 hs2, i_40_2 hs2, i_40_3 hs2, r_40_4 hs2, r_40_5 hs2, r_40_6 hs2, i_40_7 hs2, r_40_8 hs2, r_40_9 hs2, r_40_10 hs2, r_40_11 hs2, r_40_12 hs2, i_40_13 hs2, r_40_14 hs2, r_40_15 hs2, r_40_16 hs2, r_40_17 hs2, i_40_18 hs2, i_40_19 hs2, r_40_20 hs2, r_40_21 hs2, r_40_22 hs2, i_40_23 hs2, r_40_24 hs2, r_40_25 hs2, r_40_26 hs2, r_40_27 hs2, r_40_28 hs2, i_40_29 hs2, r_40_30 hs2, r_40_31 hs2, r_40_32 hs2, r_40_33 hs2, r_40_34 hs2, r_40_35 hs2, r_40_36 hs2, r_40_37 hs2, i_40_38 hs2, i_40_39 hs2, i_40_40 hs2, i_40_41 hs2, i_40_42 hs2, i_40_43 hs2, i_40_44 hs2, i_40_45 hs2, r_40_46 hs2, r_40_47 hs2, r_40_48 hs2, r_40_49 hs2, r_40_50 hs2, r_40_51 hs2, r_40_52 hs2, r_40_53 hs2, r_40_54 hs2, r_40_55 hs2, r_40_56 hs2, r_40_57 hs2, r_40_58 hs2, i_40_59 hs2, i_40_60 hs2, r_40_61 hs2, o_40 hs2, j_59 hs2, n_59 hs2, g2, hc4, hixp, hclp, g6, hup, ne10, true_or, hA]
theorem M_spread_p (h : SH σ) (hp : gi σ 40 11 7 = nI np) (hnp : np ≤ 40) (pic : Int32) (A : Prop) :
    ∀ j k, k + j = np → ∀ (z : Option Value) (g : Nat → Int32) (mo : Int32), (∀ z' : Option Value, ax k_M_spread 119 [some (.ref 40), some (.int pic), some (.int (passF (mLk σ) np k j g mo).2), some (.int (nI np)), z'] [] (mSet σ (passF (mLk σ) np k j g mo).1) Q = A) → ax k_M_spread 42 [some (.ref 40), some (.int pic), some (.int mo), some (.int (nI k)), z] [] (mSet σ g) Q = A := by
  intro j
  induction j with
  | zero =>
    intro k hk z g mo hA
    have hk : k = np := by omega
    subst hk
    have hs := SH_mSet h g
    have g1 : gi (mSet σ g) 40 11 7 = nI k := by rw [gi_set_ne (by decide)]; exact hp
    have hc : ¬ nI k < nI k := Int32.lt_irrefl
    simp only [passF] at hA
    rw [s_M_spread_42]
    simp only [s_M_spread_0, s_M_spread_1, s_M_spread_3, s_M_spread_4, s_M_spread_7, s_M_spread_10, s_M_spread_11, s_M_spread_14, s_M_spread_15, s_M_spread_16, s_M_spread_17, s_M_spread_20, s_M_spread_21, s_M_spread_24, s_M_spread_25, s_M_spread_26, s_M_spread_29, s_M_spread_32, s_M_spread_33, s_M_spread_35, s_M_spread_38, s_M_spread_39, s_M_spread_40, s_M_spread_41, s_M_spread_43, s_M_spread_44, s_M_spread_47, s_M_spread_50, s_M_spread_51, s_M_spread_55, s_M_spread_56, s_M_spread_59, s_M_spread_62, s_M_spread_63, s_M_spread_66, s_M_spread_67, s_M_spread_68, s_M_spread_71, s_M_spread_72, s_M_spread_75, s_M_spread_77, s_M_spread_78, s_M_spread_81, s_M_spread_82, s_M_spread_83, s_M_spread_85, s_M_spread_88, s_M_spread_89, s_M_spread_92, s_M_spread_95, s_M_spread_98, s_M_spread_99, s_M_spread_102, s_M_spread_103, s_M_spread_104, s_M_spread_105, s_M_spread_106, s_M_spread_107, s_M_spread_110, s_M_spread_113, s_M_spread_116, s_M_spread_122, ↓reduceIte, Nat.reduceEqDiff, Nat.reduceLT, am_top, ax_f_some, ax_k_some, ax_k_none, s8_0, s8_1, s8_2, s8_3, s8_4, c2p_n, c2p_i, c2p_r, c2p_z, okvp_i, okvp_l, okvp_r, okvp_n, okvp_z, okvp_z0, okvp_z1, bi_narp, am_nar0p, am_nar1p, bi_0, bi_1, true_and, and_true, i_40_0 hs, i_40_1 hs, i_40_2 hs, i_40_3 hs, r_40_4 hs, r_40_5 hs, r_40_6 hs, i_40_7 hs, r_40_8 hs, r_40_9 hs, r_40_10 hs, r_40_11 hs, r_40_12 hs, i_40_13 hs, r_40_14 hs, r_40_15 hs, r_40_16 hs, r_40_17 hs, i_40_18 hs, i_40_19 hs, r_40_20 hs, r_40_21 hs, r_40_22 hs, i_40_23 hs, r_40_24 hs, r_40_25 hs, r_40_26 hs, r_40_27 hs, r_40_28 hs, i_40_29 hs, r_40_30 hs, r_40_31 hs, r_40_32 hs, r_40_33 hs, r_40_34 hs, r_40_35 hs, r_40_36 hs, r_40_37 hs, i_40_38 hs, i_40_39 hs, i_40_40 hs, i_40_41 hs, i_40_42 hs, i_40_43 hs, i_40_44 hs, i_40_45 hs, r_40_46 hs, r_40_47 hs, r_40_48 hs, r_40_49 hs, r_40_50 hs, r_40_51 hs, r_40_52 hs, r_40_53 hs, r_40_54 hs, r_40_55 hs, r_40_56 hs, r_40_57 hs, r_40_58 hs, i_40_59 hs, i_40_60 hs, r_40_61 hs, o_40 hs, j_59 hs, n_59 hs, g1, hc]
    exact hA _
  | succ j ih =>
    intro k hk z g mo hA
    have hs := SH_mSet h g
    have g1 : gi (mSet σ g) 40 11 7 = nI np := by rw [gi_set_ne (by decide)]; exact hp
    have g5 : ga (mSet σ g) 59 = g := ga_set_eq
    have hc : nI k < nI np := nI_lt (by omega) (by omega)
    have hc0 : nI 0 < nI np := nI_lt (by omega) (by omega)
    have hix := ix_nI (show k < 40 by omega) (by omega)
    have hcl : (nI k).toNatClampNeg = k := nI_clamp (by omega)
    have step : ∀ (z : Option Value) (g : Nat → Int32) (mo : Int32), (∀ z' : Option Value, ax k_M_spread 119 [some (.ref 40), some (.int pic), some (.int (passF (mLk σ) np (k + 1) j g mo).2), some (.int (nI np)), z'] [] (mSet σ (passF (mLk σ) np (k + 1) j g mo).1) Q = A) → ax k_M_spread 113 [some (.ref 40), some (.int pic), some (.int mo), some (.int (nI k)), z] [] (mSet σ g) Q = A := by
      intro z g mo hh
      have ih := ih (k + 1) (by omega) z g mo hh
      simp only [s_M_spread_0, s_M_spread_1, s_M_spread_3, s_M_spread_4, s_M_spread_7, s_M_spread_10, s_M_spread_11, s_M_spread_14, s_M_spread_15, s_M_spread_16, s_M_spread_17, s_M_spread_20, s_M_spread_21, s_M_spread_24, s_M_spread_25, s_M_spread_26, s_M_spread_29, s_M_spread_32, s_M_spread_33, s_M_spread_35, s_M_spread_38, s_M_spread_39, s_M_spread_40, s_M_spread_41, s_M_spread_43, s_M_spread_44, s_M_spread_47, s_M_spread_50, s_M_spread_51, s_M_spread_55, s_M_spread_56, s_M_spread_59, s_M_spread_62, s_M_spread_63, s_M_spread_66, s_M_spread_67, s_M_spread_68, s_M_spread_71, s_M_spread_72, s_M_spread_75, s_M_spread_77, s_M_spread_78, s_M_spread_81, s_M_spread_82, s_M_spread_83, s_M_spread_85, s_M_spread_88, s_M_spread_89, s_M_spread_92, s_M_spread_95, s_M_spread_98, s_M_spread_99, s_M_spread_102, s_M_spread_103, s_M_spread_104, s_M_spread_105, s_M_spread_106, s_M_spread_107, s_M_spread_110, s_M_spread_113, s_M_spread_116, s_M_spread_119, s_M_spread_122, ↓reduceIte, Nat.reduceEqDiff, Nat.reduceLT, am_top, ax_f_some, ax_k_some, ax_k_none, s8_0, s8_1, s8_2, s8_3, s8_4, c2p_n, c2p_i, c2p_r, c2p_z, okvp_i, okvp_l, okvp_r, okvp_n, okvp_z, okvp_z0, okvp_z1, bi_narp, am_nar0p, am_nar1p, bi_0, bi_1, true_and, and_true, nI_1]
      exact ih
    rw [s_M_spread_42]
    simp only [s_M_spread_0, s_M_spread_1, s_M_spread_3, s_M_spread_4, s_M_spread_7, s_M_spread_10, s_M_spread_11, s_M_spread_14, s_M_spread_15, s_M_spread_16, s_M_spread_17, s_M_spread_20, s_M_spread_21, s_M_spread_24, s_M_spread_25, s_M_spread_26, s_M_spread_29, s_M_spread_32, s_M_spread_33, s_M_spread_35, s_M_spread_38, s_M_spread_39, s_M_spread_40, s_M_spread_41, s_M_spread_43, s_M_spread_44, s_M_spread_47, s_M_spread_50, s_M_spread_51, s_M_spread_55, s_M_spread_56, s_M_spread_59, s_M_spread_62, s_M_spread_63, s_M_spread_66, s_M_spread_67, s_M_spread_68, s_M_spread_71, s_M_spread_72, s_M_spread_75, s_M_spread_77, s_M_spread_78, s_M_spread_81, s_M_spread_82, s_M_spread_83, s_M_spread_85, s_M_spread_88, s_M_spread_89, s_M_spread_92, s_M_spread_95, s_M_spread_98, s_M_spread_99, s_M_spread_102, s_M_spread_103, s_M_spread_104, s_M_spread_105, s_M_spread_106, s_M_spread_107, s_M_spread_110, s_M_spread_113, s_M_spread_116, s_M_spread_122, ↓reduceIte, Nat.reduceEqDiff, Nat.reduceLT, am_top, ax_f_some, ax_k_some, ax_k_none, s8_0, s8_1, s8_2, s8_3, s8_4, c2p_n, c2p_i, c2p_r, c2p_z, okvp_i, okvp_l, okvp_r, okvp_n, okvp_z, okvp_z0, okvp_z1, bi_narp, am_nar0p, am_nar1p, bi_0, bi_1, true_and, and_true, i_40_0 hs, i_40_1 hs, i_40_2 hs, i_40_3 hs, r_40_4 hs, r_40_5 hs, r_40_6 hs, i_40_7 hs, r_40_8 hs, r_40_9 hs, r_40_10 hs, r_40_11 hs, r_40_12 hs, i_40_13 hs, r_40_14 hs, r_40_15 hs, r_40_16 hs, r_40_17 hs, i_40_18 hs, i_40_19 hs, r_40_20 hs, r_40_21 hs, r_40_22 hs, i_40_23 hs, r_40_24 hs, r_40_25 hs, r_40_26 hs, r_40_27 hs, r_40_28 hs, i_40_29 hs, r_40_30 hs, r_40_31 hs, r_40_32 hs, r_40_33 hs, r_40_34 hs, r_40_35 hs, r_40_36 hs, r_40_37 hs, i_40_38 hs, i_40_39 hs, i_40_40 hs, i_40_41 hs, i_40_42 hs, i_40_43 hs, i_40_44 hs, i_40_45 hs, r_40_46 hs, r_40_47 hs, r_40_48 hs, r_40_49 hs, r_40_50 hs, r_40_51 hs, r_40_52 hs, r_40_53 hs, r_40_54 hs, r_40_55 hs, r_40_56 hs, r_40_57 hs, r_40_58 hs, i_40_59 hs, i_40_60 hs, r_40_61 hs, o_40 hs, j_59 hs, n_59 hs, g1, hc]
    by_cases c1 : g k = 0
    · have hq := M_spread_q (Q := Q) h hp hnp pic mo g (show k < np by omega) c1 A np 0 (by omega)
      rw [nI_0] at hq
      refine hq fun z => ?_
      by_cases c2 : anyR (nearB (mLk σ) g k) 0 np = true
      · rw [if_pos c2]
        refine step z _ _ fun z' => ?_
        have hh := hA z'
        simp only [passF, if_pos (And.intro c1 c2)] at hh
        exact hh
      · rw [if_neg c2]
        refine step z _ _ fun z' => ?_
        have hh := hA z'
        simp only [passF, if_neg (fun y : g k = 0 ∧ anyR (nearB (mLk σ) g k) 0 np = true => c2 y.2)] at hh
        exact hh
    · have st := fun z => step z g mo (fun z' => by
        have hh := hA z'
        simp only [passF, if_neg (fun y : g k = 0 ∧ anyR (nearB (mLk σ) g k) 0 np = true => c1 y.1)] at hh
        exact hh)
      rw [s_M_spread_53]
      rw [nI_0] at hc0
      simp only [s_M_spread_0, s_M_spread_1, s_M_spread_3, s_M_spread_4, s_M_spread_7, s_M_spread_10, s_M_spread_11, s_M_spread_14, s_M_spread_15, s_M_spread_16, s_M_spread_17, s_M_spread_20, s_M_spread_21, s_M_spread_24, s_M_spread_25, s_M_spread_26, s_M_spread_29, s_M_spread_32, s_M_spread_33, s_M_spread_35, s_M_spread_38, s_M_spread_39, s_M_spread_40, s_M_spread_41, s_M_spread_43, s_M_spread_44, s_M_spread_47, s_M_spread_50, s_M_spread_51, s_M_spread_55, s_M_spread_56, s_M_spread_59, s_M_spread_62, s_M_spread_63, s_M_spread_66, s_M_spread_67, s_M_spread_68, s_M_spread_71, s_M_spread_72, s_M_spread_75, s_M_spread_77, s_M_spread_78, s_M_spread_81, s_M_spread_82, s_M_spread_83, s_M_spread_85, s_M_spread_88, s_M_spread_89, s_M_spread_92, s_M_spread_95, s_M_spread_98, s_M_spread_99, s_M_spread_102, s_M_spread_103, s_M_spread_104, s_M_spread_105, s_M_spread_106, s_M_spread_107, s_M_spread_110, s_M_spread_116, s_M_spread_119, s_M_spread_122, ↓reduceIte, Nat.reduceEqDiff, Nat.reduceLT, am_top, ax_f_some, ax_k_some, ax_k_none, s8_0, s8_1, s8_2, s8_3, s8_4, c2p_n, c2p_i, c2p_r, c2p_z, okvp_i, okvp_l, okvp_r, okvp_n, okvp_z, okvp_z0, okvp_z1, bi_narp, am_nar0p, am_nar1p, bi_0, bi_1, true_and, and_true, i_40_0 hs, i_40_1 hs, i_40_2 hs, i_40_3 hs, r_40_4 hs, r_40_5 hs, r_40_6 hs, i_40_7 hs, r_40_8 hs, r_40_9 hs, r_40_10 hs, r_40_11 hs, r_40_12 hs, i_40_13 hs, r_40_14 hs, r_40_15 hs, r_40_16 hs, r_40_17 hs, i_40_18 hs, i_40_19 hs, r_40_20 hs, r_40_21 hs, r_40_22 hs, i_40_23 hs, r_40_24 hs, r_40_25 hs, r_40_26 hs, r_40_27 hs, r_40_28 hs, i_40_29 hs, r_40_30 hs, r_40_31 hs, r_40_32 hs, r_40_33 hs, r_40_34 hs, r_40_35 hs, r_40_36 hs, r_40_37 hs, i_40_38 hs, i_40_39 hs, i_40_40 hs, i_40_41 hs, i_40_42 hs, i_40_43 hs, i_40_44 hs, i_40_45 hs, r_40_46 hs, r_40_47 hs, r_40_48 hs, r_40_49 hs, r_40_50 hs, r_40_51 hs, r_40_52 hs, r_40_53 hs, r_40_54 hs, r_40_55 hs, r_40_56 hs, r_40_57 hs, r_40_58 hs, i_40_59 hs, i_40_60 hs, r_40_61 hs, o_40 hs, j_59 hs, n_59 hs, g1, g5, hc0, hix, hcl, true_or, c1, st]
theorem M_spread_w (h : SH σ) (hp : gi σ 40 11 7 = nI np) (hnp : np ≤ 40) (pic : Int32) {g' : Nat → Int32} : ∀ n g mo, loopF (mLk σ) np n g mo = some g' → ∀ z z2 : Option Value, ax k_M_spread 34 [some (.ref 40), some (.int pic), some (.int mo), z, z2] [] (mSet σ g) Q = Q none (mSet σ g') := by
  intro n
  induction n with
  | zero => intro g mo hh; cases hh
  | succ n ih =>
    intro g mo hh z z2
    simp only [loopF] at hh
    rw [s_M_spread_34]
    simp only [s_M_spread_0, s_M_spread_1, s_M_spread_3, s_M_spread_4, s_M_spread_7, s_M_spread_10, s_M_spread_11, s_M_spread_14, s_M_spread_15, s_M_spread_16, s_M_spread_17, s_M_spread_20, s_M_spread_21, s_M_spread_24, s_M_spread_25, s_M_spread_26, s_M_spread_29, s_M_spread_32, s_M_spread_33, s_M_spread_35, s_M_spread_38, s_M_spread_39, s_M_spread_40, s_M_spread_41, s_M_spread_43, s_M_spread_44, s_M_spread_47, s_M_spread_50, s_M_spread_51, s_M_spread_55, s_M_spread_56, s_M_spread_59, s_M_spread_62, s_M_spread_63, s_M_spread_66, s_M_spread_67, s_M_spread_68, s_M_spread_71, s_M_spread_72, s_M_spread_75, s_M_spread_77, s_M_spread_78, s_M_spread_81, s_M_spread_82, s_M_spread_83, s_M_spread_85, s_M_spread_88, s_M_spread_89, s_M_spread_92, s_M_spread_95, s_M_spread_98, s_M_spread_99, s_M_spread_102, s_M_spread_103, s_M_spread_104, s_M_spread_105, s_M_spread_106, s_M_spread_107, s_M_spread_110, s_M_spread_113, s_M_spread_116, s_M_spread_119, s_M_spread_122, ↓reduceIte, Nat.reduceEqDiff, Nat.reduceLT, am_top, ax_f_some, ax_k_some, ax_k_none, s8_0, s8_1, s8_2, s8_3, s8_4, c2p_n, c2p_i, c2p_r, c2p_z, okvp_i, okvp_l, okvp_r, okvp_n, okvp_z, okvp_z0, okvp_z1, bi_narp, am_nar0p, am_nar1p, bi_0, bi_1, true_and, and_true]
    by_cases c1 : mo = 0
    · rw [if_pos c1] at hh ⊢
      cases hh
      rfl
    · rw [if_neg c1] at hh ⊢
      have hq := M_spread_p (Q := Q) h hp hnp pic (Q none (mSet σ g')) np 0 (by omega) z2 g 0 (fun z' => by
        simp only [s_M_spread_0, s_M_spread_1, s_M_spread_3, s_M_spread_4, s_M_spread_7, s_M_spread_10, s_M_spread_11, s_M_spread_14, s_M_spread_15, s_M_spread_16, s_M_spread_17, s_M_spread_20, s_M_spread_21, s_M_spread_24, s_M_spread_25, s_M_spread_26, s_M_spread_29, s_M_spread_32, s_M_spread_33, s_M_spread_35, s_M_spread_38, s_M_spread_39, s_M_spread_40, s_M_spread_41, s_M_spread_43, s_M_spread_44, s_M_spread_47, s_M_spread_50, s_M_spread_51, s_M_spread_55, s_M_spread_56, s_M_spread_59, s_M_spread_62, s_M_spread_63, s_M_spread_66, s_M_spread_67, s_M_spread_68, s_M_spread_71, s_M_spread_72, s_M_spread_75, s_M_spread_77, s_M_spread_78, s_M_spread_81, s_M_spread_82, s_M_spread_83, s_M_spread_85, s_M_spread_88, s_M_spread_89, s_M_spread_92, s_M_spread_95, s_M_spread_98, s_M_spread_99, s_M_spread_102, s_M_spread_103, s_M_spread_104, s_M_spread_105, s_M_spread_106, s_M_spread_107, s_M_spread_110, s_M_spread_113, s_M_spread_116, s_M_spread_119, s_M_spread_122, ↓reduceIte, Nat.reduceEqDiff, Nat.reduceLT, am_top, ax_f_some, ax_k_some, ax_k_none, s8_0, s8_1, s8_2, s8_3, s8_4, c2p_n, c2p_i, c2p_r, c2p_z, okvp_i, okvp_l, okvp_r, okvp_n, okvp_z, okvp_z0, okvp_z1, bi_narp, am_nar0p, am_nar1p, bi_0, bi_1, true_and, and_true]
        exact ih _ _ hh _ _)
      rw [nI_0] at hq
      exact hq
theorem M_spread_i (h : SH σ) (hp : gi σ 40 11 7 = nI np) (hnp : np ≤ 40) (pic : Int32) (A : Prop) (hA : ax k_M_spread 32 [some (.ref 40), some (.int pic), some (.int (nI np)), none, none] [] (mSet σ (iniR (ga σ 59) pic np)) Q = A) : ∀ j k, k + j = np → ax k_M_spread 2 [some (.ref 40), some (.int pic), some (.int (nI k)), none, none] [] (mSet σ (iniR (ga σ 59) pic k)) Q = A := by
  intro j
  induction j with
  | zero =>
    intro k hk
    have hk : k = np := by omega
    subst hk
    have hs := SH_mSet h (iniR (ga σ 59) pic k)
    have g1 : gi (mSet σ (iniR (ga σ 59) pic k)) 40 11 7 = nI k := by rw [gi_set_ne (by decide)]; exact hp
    have hc : ¬ nI k < nI k := Int32.lt_irrefl
    rw [s_M_spread_2]
    simp only [s_M_spread_0, s_M_spread_1, s_M_spread_3, s_M_spread_4, s_M_spread_7, s_M_spread_10, s_M_spread_11, s_M_spread_14, s_M_spread_15, s_M_spread_16, s_M_spread_17, s_M_spread_20, s_M_spread_21, s_M_spread_24, s_M_spread_25, s_M_spread_26, s_M_spread_29, s_M_spread_33, s_M_spread_34, s_M_spread_35, s_M_spread_38, s_M_spread_39, s_M_spread_40, s_M_spread_41, s_M_spread_42, s_M_spread_43, s_M_spread_44, s_M_spread_47, s_M_spread_50, s_M_spread_51, s_M_spread_53, s_M_spread_55, s_M_spread_56, s_M_spread_59, s_M_spread_62, s_M_spread_63, s_M_spread_66, s_M_spread_67, s_M_spread_68, s_M_spread_71, s_M_spread_72, s_M_spread_75, s_M_spread_77, s_M_spread_78, s_M_spread_81, s_M_spread_82, s_M_spread_83, s_M_spread_85, s_M_spread_88, s_M_spread_89, s_M_spread_92, s_M_spread_95, s_M_spread_98, s_M_spread_99, s_M_spread_102, s_M_spread_103, s_M_spread_104, s_M_spread_105, s_M_spread_106, s_M_spread_107, s_M_spread_110, s_M_spread_113, s_M_spread_116, s_M_spread_119, s_M_spread_122, ↓reduceIte, Nat.reduceEqDiff, Nat.reduceLT, am_top, ax_f_some, ax_k_some, ax_k_none, s8_0, s8_1, s8_2, s8_3, s8_4, c2p_n, c2p_i, c2p_r, c2p_z, okvp_i, okvp_l, okvp_r, okvp_n, okvp_z, okvp_z0, okvp_z1, bi_narp, am_nar0p, am_nar1p, bi_0, bi_1, true_and, and_true, i_40_0 hs, i_40_1 hs, i_40_2 hs, i_40_3 hs, r_40_4 hs, r_40_5 hs, r_40_6 hs, i_40_7 hs, r_40_8 hs, r_40_9 hs, r_40_10 hs, r_40_11 hs, r_40_12 hs, i_40_13 hs, r_40_14 hs, r_40_15 hs, r_40_16 hs, r_40_17 hs, i_40_18 hs, i_40_19 hs, r_40_20 hs, r_40_21 hs, r_40_22 hs, i_40_23 hs, r_40_24 hs, r_40_25 hs, r_40_26 hs, r_40_27 hs, r_40_28 hs, i_40_29 hs, r_40_30 hs, r_40_31 hs, r_40_32 hs, r_40_33 hs, r_40_34 hs, r_40_35 hs, r_40_36 hs, r_40_37 hs, i_40_38 hs, i_40_39 hs, i_40_40 hs, i_40_41 hs, i_40_42 hs, i_40_43 hs, i_40_44 hs, i_40_45 hs, r_40_46 hs, r_40_47 hs, r_40_48 hs, r_40_49 hs, r_40_50 hs, r_40_51 hs, r_40_52 hs, r_40_53 hs, r_40_54 hs, r_40_55 hs, r_40_56 hs, r_40_57 hs, r_40_58 hs, i_40_59 hs, i_40_60 hs, r_40_61 hs, o_40 hs, j_59 hs, n_59 hs, g1, hc]
    exact hA
  | succ j ih =>
    intro k hk
    have ih := ih (k + 1) (by omega)
    have hs := SH_mSet h (iniR (ga σ 59) pic k)
    have g1 : gi (mSet σ (iniR (ga σ 59) pic k)) 40 11 7 = nI np := by rw [gi_set_ne (by decide)]; exact hp
    have g5 : ga (mSet σ (iniR (ga σ 59) pic k)) 59 = iniR (ga σ 59) pic k := ga_set_eq
    have hc : nI k < nI np := nI_lt (by omega) (by omega)
    have hix := ix_nI (show k < 40 by omega) (by omega)
    have hcl : (nI k).toNatClampNeg = k := nI_clamp (by omega)
    rw [s_M_spread_2]
    simp only [s_M_spread_0, s_M_spread_1, s_M_spread_3, s_M_spread_4, s_M_spread_7, s_M_spread_10, s_M_spread_11, s_M_spread_14, s_M_spread_15, s_M_spread_16, s_M_spread_17, s_M_spread_20, s_M_spread_21, s_M_spread_24, s_M_spread_25, s_M_spread_26, s_M_spread_29, s_M_spread_33, s_M_spread_34, s_M_spread_35, s_M_spread_38, s_M_spread_39, s_M_spread_40, s_M_spread_41, s_M_spread_42, s_M_spread_43, s_M_spread_44, s_M_spread_47, s_M_spread_50, s_M_spread_51, s_M_spread_53, s_M_spread_55, s_M_spread_56, s_M_spread_59, s_M_spread_62, s_M_spread_63, s_M_spread_66, s_M_spread_67, s_M_spread_68, s_M_spread_71, s_M_spread_72, s_M_spread_75, s_M_spread_77, s_M_spread_78, s_M_spread_81, s_M_spread_82, s_M_spread_83, s_M_spread_85, s_M_spread_88, s_M_spread_89, s_M_spread_92, s_M_spread_95, s_M_spread_98, s_M_spread_99, s_M_spread_102, s_M_spread_103, s_M_spread_104, s_M_spread_105, s_M_spread_106, s_M_spread_107, s_M_spread_110, s_M_spread_113, s_M_spread_116, s_M_spread_119, s_M_spread_122, ↓reduceIte, Nat.reduceEqDiff, Nat.reduceLT, am_top, ax_f_some, ax_k_some, ax_k_none, s8_0, s8_1, s8_2, s8_3, s8_4, c2p_n, c2p_i, c2p_r, c2p_z, okvp_i, okvp_l, okvp_r, okvp_n, okvp_z, okvp_z0, okvp_z1, bi_narp, am_nar0p, am_nar1p, bi_0, bi_1, true_and, and_true, i_40_0 hs, i_40_1 hs, i_40_2 hs, i_40_3 hs, r_40_4 hs, r_40_5 hs, r_40_6 hs, i_40_7 hs, r_40_8 hs, r_40_9 hs, r_40_10 hs, r_40_11 hs, r_40_12 hs, i_40_13 hs, r_40_14 hs, r_40_15 hs, r_40_16 hs, r_40_17 hs, i_40_18 hs, i_40_19 hs, r_40_20 hs, r_40_21 hs, r_40_22 hs, i_40_23 hs, r_40_24 hs, r_40_25 hs, r_40_26 hs, r_40_27 hs, r_40_28 hs, i_40_29 hs, r_40_30 hs, r_40_31 hs, r_40_32 hs, r_40_33 hs, r_40_34 hs, r_40_35 hs, r_40_36 hs, r_40_37 hs, i_40_38 hs, i_40_39 hs, i_40_40 hs, i_40_41 hs, i_40_42 hs, i_40_43 hs, i_40_44 hs, i_40_45 hs, r_40_46 hs, r_40_47 hs, r_40_48 hs, r_40_49 hs, r_40_50 hs, r_40_51 hs, r_40_52 hs, r_40_53 hs, r_40_54 hs, r_40_55 hs, r_40_56 hs, r_40_57 hs, r_40_58 hs, i_40_59 hs, i_40_60 hs, r_40_61 hs, o_40 hs, j_59 hs, n_59 hs, g1, g5, hc, hix, hcl, true_or, or_true, nI_1, set_set]
    rw [← ih]
    by_cases c1 : nI k = pic <;> simp only [iniR, c1, ↓reduceIte]
/-- the set of a picture, as the reference spreads it -/
def mSpr (σ : am_H) (np n : Nat) (pic : Int32) : Option (Nat → Int32) := loopF (mLk σ) np n (iniR (ga σ 59) pic np) 1
theorem mSet_self (h : SH σ) : mSet σ (ga σ 59) = σ := by
  have e := j_get (j_59 h)
  unfold mSet am_set
  refine Prod.ext rfl (Prod.ext rfl ?_)
  funext x
  by_cases hx : x = 59
  · subst hx
    simp only [↓reduceIte]
    exact e.symm
  · simp only [hx, ↓reduceIte]
theorem M_spread (h : SH σ) (hp : gi σ 40 11 7 = nI np) (hnp : np ≤ 40) (pic : Int32) {n : Nat} {g' : Nat → Int32} (hg : mSpr σ np n pic = some g') : ax k_M_spread 0 [some (.ref 40), some (.int pic), none, none, none] [] σ Q = Q none (mSet σ g') := by
  have hw := M_spread_w (Q := Q) h hp hnp pic n _ _ hg none none
  have hi := M_spread_i (Q := Q) h hp hnp pic (Q none (mSet σ g')) (by
    simp only [s_M_spread_0, s_M_spread_1, s_M_spread_3, s_M_spread_4, s_M_spread_7, s_M_spread_10, s_M_spread_11, s_M_spread_14, s_M_spread_15, s_M_spread_16, s_M_spread_17, s_M_spread_20, s_M_spread_21, s_M_spread_24, s_M_spread_25, s_M_spread_26, s_M_spread_29, s_M_spread_32, s_M_spread_33, s_M_spread_35, s_M_spread_38, s_M_spread_39, s_M_spread_40, s_M_spread_41, s_M_spread_43, s_M_spread_44, s_M_spread_47, s_M_spread_50, s_M_spread_51, s_M_spread_55, s_M_spread_56, s_M_spread_59, s_M_spread_62, s_M_spread_63, s_M_spread_66, s_M_spread_67, s_M_spread_68, s_M_spread_71, s_M_spread_72, s_M_spread_75, s_M_spread_77, s_M_spread_78, s_M_spread_81, s_M_spread_82, s_M_spread_83, s_M_spread_85, s_M_spread_88, s_M_spread_89, s_M_spread_92, s_M_spread_95, s_M_spread_98, s_M_spread_99, s_M_spread_102, s_M_spread_103, s_M_spread_104, s_M_spread_105, s_M_spread_106, s_M_spread_107, s_M_spread_110, s_M_spread_113, s_M_spread_116, s_M_spread_119, s_M_spread_122, ↓reduceIte, Nat.reduceEqDiff, Nat.reduceLT, am_top, ax_f_some, ax_k_some, ax_k_none, s8_0, s8_1, s8_2, s8_3, s8_4, c2p_n, c2p_i, c2p_r, c2p_z, okvp_i, okvp_l, okvp_r, okvp_n, okvp_z, okvp_z0, okvp_z1, bi_narp, am_nar0p, am_nar1p, bi_0, bi_1, true_and, and_true]
    exact hw) np 0 (by omega)
  simp only [iniR, mSet_self h, nI_0] at hi
  simp only [s_M_spread_0, s_M_spread_1, s_M_spread_3, s_M_spread_4, s_M_spread_7, s_M_spread_10, s_M_spread_11, s_M_spread_14, s_M_spread_15, s_M_spread_16, s_M_spread_17, s_M_spread_20, s_M_spread_21, s_M_spread_24, s_M_spread_25, s_M_spread_26, s_M_spread_29, s_M_spread_32, s_M_spread_33, s_M_spread_35, s_M_spread_38, s_M_spread_39, s_M_spread_40, s_M_spread_41, s_M_spread_43, s_M_spread_44, s_M_spread_47, s_M_spread_50, s_M_spread_51, s_M_spread_55, s_M_spread_56, s_M_spread_59, s_M_spread_62, s_M_spread_63, s_M_spread_66, s_M_spread_67, s_M_spread_68, s_M_spread_71, s_M_spread_72, s_M_spread_75, s_M_spread_77, s_M_spread_78, s_M_spread_81, s_M_spread_82, s_M_spread_83, s_M_spread_85, s_M_spread_88, s_M_spread_89, s_M_spread_92, s_M_spread_95, s_M_spread_98, s_M_spread_99, s_M_spread_102, s_M_spread_103, s_M_spread_104, s_M_spread_105, s_M_spread_106, s_M_spread_107, s_M_spread_110, s_M_spread_113, s_M_spread_116, s_M_spread_119, s_M_spread_122, ↓reduceIte, Nat.reduceEqDiff, Nat.reduceLT, am_top, ax_f_some, ax_k_some, ax_k_none, s8_0, s8_1, s8_2, s8_3, s8_4, c2p_n, c2p_i, c2p_r, c2p_z, okvp_i, okvp_l, okvp_r, okvp_n, okvp_z, okvp_z0, okvp_z1, bi_narp, am_nar0p, am_nar1p, bi_0, bi_1, true_and, and_true]
  exact hi
end M7
