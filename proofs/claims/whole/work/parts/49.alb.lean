/-! THE CLASS, 9: the album -/
def nibU (g : Int64) (k : Nat) : Int32 := ((g.toUInt64 >>> ((nI (4 * k)).toInt64.toUInt64 &&& Int64.toUInt64 63)).toInt64 &&& 15).toInt32
def absI (x : Int32) : Int32 := if 0 ≤ x then x else 0 - x
def difF (a b : Int64) : Nat → Int32
  | 0 => 0
  | k + 1 => difF a b k + absI (nibU a k - nibU b k)
def addR (f : Nat → Int32) (n : Nat) (gr : Nat → Int64) (g : Int64) : Nat → Nat → Int32
  | 0 => f
  | k + 1 => upd (upd (addR f n gr g k) (n * 40 + k) (difF g (gr k) 16)) (k * 40 + n) (difF g (gr k) 16)
abbrev aDis (σ : am_H) (f : Nat → Int32) : am_H := am_set σ 14 (am_ia 0 1600 f)
abbrev aChn (σ : am_H) (f : Nat → Int32) : am_H := am_set σ 15 (am_ia 0 40 f)
theorem SH_aDis {σ : am_H} (h : SH σ) (f : Nat → Int32) : SH (aDis σ f) := SH_set_j h (by decide) (by decide) (by decide) (by decide) (by decide)
theorem SH_aChn {σ : am_H} (h : SH σ) (f : Nat → Int32) : SH (aChn σ f) := SH_set_j h (by decide) (by decide) (by decide) (by decide) (by decide)
def aPicA (σ : am_H) (n : Nat) (sh tk : Int32) (g : Int64) (pe : Int32) : am_H := am_set (am_set (am_set (am_set σ 10 (am_ia 0 40 (upd (ga σ 10) n sh))) 11 (am_ia 0 40 (upd (ga σ 11) n tk))) 13 (am_la 40 (vp_updL (gL σ 13) n g))) 12 (am_ia 0 40 (upd (ga σ 12) n pe))
def aPic (σ : am_H) (n : Nat) (sh tk : Int32) (g : Int64) (pe : Int32) : am_H := am_put (aDis (aPicA σ n sh tk g pe) (addR (ga σ 14) n (gL σ 13) g n)) 9 6 (.int (nI (n + 1)))
abbrev BS : Type := Int64 × (Nat → Int32) × Nat
def stB (lk : Nat → Nat → Bool) (x o : Nat) (s : BS) : BS := if (hldB s.1 (nI o) = false ∧ lk x o = true) ∧ s.2.2 < 40 then (s.1 ||| ((1 : Int64) <<< ((nI o).toInt64 &&& 63)), upd s.2.1 s.2.2 (nI o), s.2.2 + 1) else s
def inS (lk : Nat → Nat → Bool) (x : Nat) : Nat → Nat → BS → BS
  | _, 0, s => s
  | k, c + 1, s => inS lk x (k + 1) c (stB lk x k s)
def ouS (lk : Nat → Nat → Bool) (n : Nat) : Nat → Nat → BS → BS
  | 0, _, s => s
  | c + 1, i, s => if i < s.2.2 then ouS lk n c (i + 1) (inS lk (s.2.1 i).toNatClampNeg 0 n s) else s
def aLk (σ : am_H) (x o : Nat) : Bool := !decide (gi σ 9 0 7 < ga σ 14 (x * 40 + o))
def BOk (n : Nat) (s : BS) : Prop := s.2.2 ≤ 40 ∧ ∀ i, i < s.2.2 → ∃ x, x < n ∧ s.2.1 i = nI x
theorem stB_ok {lk : Nat → Nat → Bool} {n x o : Nat} {s : BS} (ho : o < n) (h : BOk n s) : BOk n (stB lk x o s) ∧ s.2.2 ≤ (stB lk x o s).2.2 ∧ ∀ i, i < s.2.2 → (stB lk x o s).2.1 i = s.2.1 i := by
  unfold stB
  split
  · rename_i c
    refine ⟨⟨by dsimp only; omega, fun i hi => ?_⟩, by dsimp only; omega, fun i hi => ?_⟩
    · dsimp only at hi ⊢
      by_cases e : i = s.2.2
      · subst e
        exact ⟨o, ho, pk_us⟩
      · simp only [upd, if_neg e]
        exact h.2 i (by omega)
    · dsimp only
      simp only [upd, if_neg (show ¬ i = s.2.2 by omega)]
  · exact ⟨h, Nat.le_refl _, fun _ _ => rfl⟩
theorem inS_ok {lk : Nat → Nat → Bool} {n x : Nat} : ∀ c k s, k + c ≤ n → BOk n s → BOk n (inS lk x k c s) ∧ s.2.2 ≤ (inS lk x k c s).2.2 ∧ ∀ i, i < s.2.2 → (inS lk x k c s).2.1 i = s.2.1 i := by
  intro c
  induction c with
  | zero => intro k s _ h; exact ⟨h, Nat.le_refl _, fun _ _ => rfl⟩
  | succ c ih =>
    intro k s hk h
    have a1 := stB_ok (lk := lk) (x := x) (show k < n by omega) h
    have a2 := ih (k + 1) (stB lk x k s) (by omega) a1.1
    simp only [inS]
    exact ⟨a2.1, Nat.le_trans a1.2.1 a2.2.1, fun i hi => (a2.2.2 i (Nat.lt_of_lt_of_le hi a1.2.1)).trans (a1.2.2 i hi)⟩
section A9
variable {σ : am_H} {Q : Option Value → am_H → Prop} {n : Nat}
theorem Al_diff_loop (a b : Int64) : ∀ j k, k + j = 16 → ∀ z : Option Value, ax k_Album_difference 6 [some (.long a), none, some (.long b), none, some (.int (difF a b k)), some (.int (nI k)), z] [] σ Q = Q (some (.int (difF a b 16))) σ := by
  intro j
  induction j with
  | zero =>
    intro k hk z
    have hk : k = 16 := by omega
    subst hk
    have hc : ¬ nI 16 < nI 16 := Int32.lt_irrefl
    rw [s_Album_difference_6]
    simp only [s_Album_difference_0, s_Album_difference_1, s_Album_difference_3, s_Album_difference_4, s_Album_difference_8, s_Album_difference_10, s_Album_difference_13, s_Album_difference_14, s_Album_difference_16, s_Album_difference_17, s_Album_difference_19, s_Album_difference_21, s_Album_difference_22, s_Album_difference_24, s_Album_difference_25, s_Album_difference_28, s_Album_difference_29, s_Album_difference_30, s_Album_difference_31, s_Album_difference_33, s_Album_difference_34, s_Album_difference_37, s_Album_difference_38, s_Album_difference_39, s_Album_difference_40, s_Album_difference_43, s_Album_difference_44, s_Album_difference_46, s_Album_difference_49, s_Album_difference_52, s_Album_difference_54, ↓reduceIte, Nat.reduceEqDiff, Nat.reduceLT, am_top, ax_f_some, ax_k_some, ax_k_none, s8_0, s8_1, s8_2, s8_3, s8_4, c2p_n, c2p_i, c2p_r, c2p_z, okvp_i, okvp_l, okvp_r, okvp_n, okvp_z, okvp_z0, okvp_z1, bi_narp, am_nar0p, am_nar1p, bi_0, bi_1, true_and, and_true, e16, hc]
  | succ j ih =>
    intro k hk z
    have ih := ih (k + 1) (by omega) (some (.int (nI (4 * k))))
    have hc : nI k < nI 16 := nI_lt (by omega) (by omega)
    have e4 : (4 : Int32) = nI 4 := by decide
    rw [s_Album_difference_6]
    simp only [s_Album_difference_0, s_Album_difference_1, s_Album_difference_3, s_Album_difference_4, s_Album_difference_8, s_Album_difference_10, s_Album_difference_13, s_Album_difference_14, s_Album_difference_16, s_Album_difference_17, s_Album_difference_19, s_Album_difference_21, s_Album_difference_22, s_Album_difference_24, s_Album_difference_25, s_Album_difference_28, s_Album_difference_29, s_Album_difference_30, s_Album_difference_31, s_Album_difference_33, s_Album_difference_34, s_Album_difference_37, s_Album_difference_38, s_Album_difference_39, s_Album_difference_40, s_Album_difference_43, s_Album_difference_44, s_Album_difference_46, s_Album_difference_49, s_Album_difference_52, s_Album_difference_54, ↓reduceIte, Nat.reduceEqDiff, Nat.reduceLT, am_top, ax_f_some, ax_k_some, ax_k_none, s8_0, s8_1, s8_2, s8_3, s8_4, c2p_n, c2p_i, c2p_r, c2p_z, okvp_i, okvp_l, okvp_r, okvp_n, okvp_z, okvp_z0, okvp_z1, bi_narp, am_nar0p, am_nar1p, bi_0, bi_1, true_and, and_true, e16, hc, e4, pk_mul, nI_1]
    exact ih
theorem Al_diff (a b : Int64) : ax k_Album_difference 0 [some (.long a), none, some (.long b), none, none, none, none] [] σ Q = Q (some (.int (difF a b 16))) σ := by
  have hl := Al_diff_loop (σ := σ) (Q := Q) a b 16 0 (by omega) none
  simp only [difF, nI_0] at hl
  simp only [s_Album_difference_0, s_Album_difference_1, s_Album_difference_3, s_Album_difference_4, s_Album_difference_8, s_Album_difference_10, s_Album_difference_13, s_Album_difference_14, s_Album_difference_16, s_Album_difference_17, s_Album_difference_19, s_Album_difference_21, s_Album_difference_22, s_Album_difference_24, s_Album_difference_25, s_Album_difference_28, s_Album_difference_29, s_Album_difference_30, s_Album_difference_31, s_Album_difference_33, s_Album_difference_34, s_Album_difference_37, s_Album_difference_38, s_Album_difference_39, s_Album_difference_40, s_Album_difference_43, s_Album_difference_44, s_Album_difference_46, s_Album_difference_49, s_Album_difference_52, s_Album_difference_54, ↓reduceIte, Nat.reduceEqDiff, Nat.reduceLT, am_top, ax_f_some, ax_k_some, ax_k_none, s8_0, s8_1, s8_2, s8_3, s8_4, c2p_n, c2p_i, c2p_r, c2p_z, okvp_i, okvp_l, okvp_r, okvp_n, okvp_z, okvp_z0, okvp_z1, bi_narp, am_nar0p, am_nar1p, bi_0, bi_1, true_and, and_true]
  exact hl
theorem SH_aPicA (h : SH σ) (sh tk : Int32) (g : Int64) (pe : Int32) : SH (aPicA σ n sh tk g pe) := by
  unfold aPicA
  exact SH_set_j (SH_set_l (SH_set_j (SH_set_j h (by decide) (by decide) (by decide) (by decide) (by decide)) (by decide) (by decide) (by decide) (by decide) (by decide)) (by decide) (by decide) (by decide) (by decide) (by decide)) (by decide) (by decide) (by decide) (by decide) (by decide)
theorem Al_add_loop (h : SH σ) (hn : gi σ 9 0 6 = nI n) (hlt : n < 40) (f : Nat → Int32) (gr : Nat → Int64) (hg : ∀ k, k < n → gL σ 13 k = gr k) (sh tk pe : Int32) (g : Int64) (A : Prop) (hA : ∀ z : Option Value, ax k_Album_add 117 [some (.ref 9), some (.int sh), some (.int tk), some (.long g), none, some (.int pe), some (.int (nI n)), z] [] (aDis σ (addR f n gr g n)) Q = A) : ∀ j k, k + j = n → ∀ z : Option Value, ax k_Album_add 55 [some (.ref 9), some (.int sh), some (.int tk), some (.long g), none, some (.int pe), some (.int (nI k)), z] [] (aDis σ (addR f n gr g k)) Q = A := by
  intro j
  induction j with
  | zero =>
    intro k hk z
    have hk : k = n := by omega
    subst hk
    have hs := SH_aDis h (addR f k gr g k)
    have g1 : gi (aDis σ (addR f k gr g k)) 9 0 6 = nI k := by rw [gi_set_ne (by decide)]; exact hn
    have hc : ¬ nI k < nI k := Int32.lt_irrefl
    rw [s_Album_add_55]
    simp only [s_Album_add_0, s_Album_add_1, s_Album_add_4, s_Album_add_6, s_Album_add_9, s_Album_add_10, s_Album_add_11, s_Album_add_12, s_Album_add_15, s_Album_add_16, s_Album_add_19, s_Album_add_20, s_Album_add_21, s_Album_add_22, s_Album_add_25, s_Album_add_26, s_Album_add_29, s_Album_add_30, s_Album_add_31, s_Album_add_32, s_Album_add_35, s_Album_add_36, s_Album_add_39, s_Album_add_40, s_Album_add_41, s_Album_add_42, s_Album_add_45, s_Album_add_46, s_Album_add_49, s_Album_add_51, s_Album_add_52, s_Album_add_53, s_Album_add_57, s_Album_add_58, s_Album_add_61, s_Album_add_64, s_Album_add_65, s_Album_add_66, s_Album_add_69, s_Album_add_71, s_Album_add_72, s_Album_add_75, s_Album_add_77, s_Album_add_78, s_Album_add_81, s_Album_add_82, s_Album_add_85, s_Album_add_87, s_Album_add_88, s_Album_add_90, s_Album_add_91, s_Album_add_93, s_Album_add_94, s_Album_add_95, s_Album_add_98, s_Album_add_100, s_Album_add_102, s_Album_add_103, s_Album_add_104, s_Album_add_107, s_Album_add_108, s_Album_add_110, s_Album_add_111, s_Album_add_114, s_Album_add_118, s_Album_add_119, s_Album_add_122, s_Album_add_123, s_Album_add_124, s_Album_add_127, s_Album_add_128, s_Album_add_131, s_Album_add_132, s_Album_add_133, ↓reduceIte, Nat.reduceEqDiff, Nat.reduceLT, am_top, ax_f_some, ax_k_some, ax_k_none, s8_0, s8_1, s8_2, s8_3, s8_4, c2p_n, c2p_i, c2p_r, c2p_z, okvp_i, okvp_l, okvp_r, okvp_n, okvp_z, okvp_z0, okvp_z1, bi_narp, am_nar0p, am_nar1p, bi_0, bi_1, true_and, and_true, r_9_0 hs, r_9_1 hs, r_9_2 hs, r_9_3 hs, r_9_4 hs, r_9_5 hs, i_9_6 hs, i_9_7 hs, o_9 hs, g1, hc]
    exact hA _
  | succ j ih =>
    intro k hk z
    have ih := ih (k + 1) (by omega) (some (.int (difF g (gr k) 16)))
    have hs := SH_aDis h (addR f n gr g k)
    have g1 : gi (aDis σ (addR f n gr g k)) 9 0 6 = nI n := by rw [gi_set_ne (by decide)]; exact hn
    have g2 : gL (aDis σ (addR f n gr g k)) 13 k = gr k := by rw [gL_set_ne (by decide)]; exact hg k (by omega)
    have g3 : ga (aDis σ (addR f n gr g k)) 14 = addR f n gr g k := ga_set_eq
    have hc : nI k < nI n := nI_lt (by omega) (by omega)
    have hix := ix_nI (show k < 40 by omega) (by omega)
    have hcl : (nI k).toNatClampNeg = k := nI_clamp (by omega)
    have hix1 := ix_nI (show n * 40 + k < 1600 by omega) (by omega)
    have hcl1 : (nI (n * 40 + k)).toNatClampNeg = n * 40 + k := nI_clamp (by omega)
    have hix2 := ix_nI (show k * 40 + n < 1600 by omega) (by omega)
    have hcl2 : (nI (k * 40 + n)).toNatClampNeg = k * 40 + n := nI_clamp (by omega)
    rw [s_Album_add_55]
    simp only [s_Album_add_0, s_Album_add_1, s_Album_add_4, s_Album_add_6, s_Album_add_9, s_Album_add_10, s_Album_add_11, s_Album_add_12, s_Album_add_15, s_Album_add_16, s_Album_add_19, s_Album_add_20, s_Album_add_21, s_Album_add_22, s_Album_add_25, s_Album_add_26, s_Album_add_29, s_Album_add_30, s_Album_add_31, s_Album_add_32, s_Album_add_35, s_Album_add_36, s_Album_add_39, s_Album_add_40, s_Album_add_41, s_Album_add_42, s_Album_add_45, s_Album_add_46, s_Album_add_49, s_Album_add_51, s_Album_add_52, s_Album_add_53, s_Album_add_57, s_Album_add_58, s_Album_add_61, s_Album_add_64, s_Album_add_65, s_Album_add_66, s_Album_add_69, s_Album_add_71, s_Album_add_72, s_Album_add_75, s_Album_add_77, s_Album_add_78, s_Album_add_81, s_Album_add_82, s_Album_add_85, s_Album_add_87, s_Album_add_88, s_Album_add_90, s_Album_add_91, s_Album_add_93, s_Album_add_94, s_Album_add_95, s_Album_add_98, s_Album_add_100, s_Album_add_102, s_Album_add_103, s_Album_add_104, s_Album_add_107, s_Album_add_108, s_Album_add_110, s_Album_add_111, s_Album_add_114, s_Album_add_118, s_Album_add_119, s_Album_add_122, s_Album_add_123, s_Album_add_124, s_Album_add_127, s_Album_add_128, s_Album_add_131, s_Album_add_132, s_Album_add_133, ↓reduceIte, Nat.reduceEqDiff, Nat.reduceLT, am_top, ax_f_some, ax_k_some, ax_k_none, s8_0, s8_1, s8_2, s8_3, s8_4, c2p_n, c2p_i, c2p_r, c2p_z, okvp_i, okvp_l, okvp_r, okvp_n, okvp_z, okvp_z0, okvp_z1, bi_narp, am_nar0p, am_nar1p, bi_0, bi_1, true_and, and_true, fld_set_ne, j_set_ne, q_set_ne, lv_set_ne, nv_set_ne, is_set_ne, j_set_eq, lv_set_eq, q_set_eq, nv_set_i, nv_set_l, nv_set_q, fld_put_ne, fld_put_k, fld_put_same, Option.map_some, j_put, q_put, lv_put, nv_put, is_put, put_1, set_1, r_9_0 hs, r_9_1 hs, r_9_2 hs, r_9_3 hs, r_9_4 hs, r_9_5 hs, i_9_6 hs, i_9_7 hs, o_9 hs, l_13 hs, n_13 hs, j_14 hs, n_14 hs, r_9_0 h, r_9_1 h, r_9_2 h, r_9_3 h, r_9_4 h, r_9_5 h, i_9_6 h, i_9_7 h, o_9 h, j_14 h, n_14 h, hn, Al_diff, g1, g2, g3, hc, hix, hcl, hix1, hcl1, hix2, hcl2, e40, pk_mul, nI_add, nI_1, set_set, not_false_eq_true]
    exact ih
theorem Al_add (h : SH σ) (hn : gi σ 9 0 6 = nI n) (hle : n ≤ 40) (sh tk pe : Int32) (g : Int64) : ax k_Album_add 0 [some (.ref 9), some (.int sh), some (.int tk), some (.long g), none, some (.int pe), none, none] [] σ Q = (if n = 40 then Q (some (.int (-1))) σ else Q (some (.int (nI n))) (aPic σ n sh tk g pe)) := by
  by_cases c : n = 40
  · subst c
    have hc : ¬ nI 40 < nI 40 := Int32.lt_irrefl
    simp only [s_Album_add_0, s_Album_add_1, s_Album_add_4, s_Album_add_6, s_Album_add_9, s_Album_add_10, s_Album_add_11, s_Album_add_12, s_Album_add_15, s_Album_add_16, s_Album_add_19, s_Album_add_20, s_Album_add_21, s_Album_add_22, s_Album_add_25, s_Album_add_26, s_Album_add_29, s_Album_add_30, s_Album_add_31, s_Album_add_32, s_Album_add_35, s_Album_add_36, s_Album_add_39, s_Album_add_40, s_Album_add_41, s_Album_add_42, s_Album_add_45, s_Album_add_46, s_Album_add_49, s_Album_add_51, s_Album_add_52, s_Album_add_53, s_Album_add_57, s_Album_add_58, s_Album_add_61, s_Album_add_64, s_Album_add_65, s_Album_add_66, s_Album_add_69, s_Album_add_71, s_Album_add_72, s_Album_add_75, s_Album_add_77, s_Album_add_78, s_Album_add_81, s_Album_add_82, s_Album_add_85, s_Album_add_87, s_Album_add_88, s_Album_add_90, s_Album_add_91, s_Album_add_93, s_Album_add_94, s_Album_add_95, s_Album_add_98, s_Album_add_100, s_Album_add_102, s_Album_add_103, s_Album_add_104, s_Album_add_107, s_Album_add_108, s_Album_add_110, s_Album_add_111, s_Album_add_114, s_Album_add_117, s_Album_add_118, s_Album_add_119, s_Album_add_122, s_Album_add_123, s_Album_add_124, s_Album_add_127, s_Album_add_128, s_Album_add_131, s_Album_add_132, s_Album_add_133, ↓reduceIte, Nat.reduceEqDiff, Nat.reduceLT, am_top, ax_f_some, ax_k_some, ax_k_none, s8_0, s8_1, s8_2, s8_3, s8_4, c2p_n, c2p_i, c2p_r, c2p_z, okvp_i, okvp_l, okvp_r, okvp_n, okvp_z, okvp_z0, okvp_z1, bi_narp, am_nar0p, am_nar1p, bi_0, bi_1, true_and, and_true, r_9_0 h, r_9_1 h, r_9_2 h, r_9_3 h, r_9_4 h, r_9_5 h, i_9_6 h, i_9_7 h, o_9 h, hn, e40, hc]
  · have hc : nI n < nI 40 := nI_lt (by omega) (by omega)
    have hix := ix_nI (show n < 40 by omega) (by omega)
    have hcl : (nI n).toNatClampNeg = n := nI_clamp (by omega)
    have hs := SH_aPicA (n := n) h sh tk g pe
    have g1 : gi (aPicA σ n sh tk g pe) 9 0 6 = nI n := by
      unfold aPicA
      rw [gi_set_ne (by decide), gi_set_ne (by decide), gi_set_ne (by decide), gi_set_ne (by decide)]
      exact hn
    have g2 : ∀ k, k < n → gL (aPicA σ n sh tk g pe) 13 k = gL σ 13 k := by
      intro k hk
      unfold aPicA
      rw [gL_set_ne (by decide), gL_set_eq]
      simp only [vp_updL, if_neg (show ¬ k = n by omega)]
    have g3 : ga (aPicA σ n sh tk g pe) 14 = ga σ 14 := by
      unfold aPicA
      rw [ga_set_ne (by decide), ga_set_ne (by decide), ga_set_ne (by decide), ga_set_ne (by decide)]
    have hs2 := SH_aDis hs (addR (ga σ 14) n (gL σ 13) g n)
    have g4 : gi (aDis (aPicA σ n sh tk g pe) (addR (ga σ 14) n (gL σ 13) g n)) 9 0 6 = nI n := by rw [gi_set_ne (by decide)]; exact g1
    have hl := Al_add_loop (Q := Q) hs g1 (by omega) (ga σ 14) (gL σ 13) g2 sh tk pe g (Q (some (.int (nI n))) (aPic σ n sh tk g pe)) (by
      intro z
      simp only [s_Album_add_0, s_Album_add_1, s_Album_add_4, s_Album_add_6, s_Album_add_9, s_Album_add_10, s_Album_add_11, s_Album_add_12, s_Album_add_15, s_Album_add_16, s_Album_add_19, s_Album_add_20, s_Album_add_21, s_Album_add_22, s_Album_add_25, s_Album_add_26, s_Album_add_29, s_Album_add_30, s_Album_add_31, s_Album_add_32, s_Album_add_35, s_Album_add_36, s_Album_add_39, s_Album_add_40, s_Album_add_41, s_Album_add_42, s_Album_add_45, s_Album_add_46, s_Album_add_49, s_Album_add_51, s_Album_add_52, s_Album_add_53, s_Album_add_57, s_Album_add_58, s_Album_add_61, s_Album_add_64, s_Album_add_65, s_Album_add_66, s_Album_add_69, s_Album_add_71, s_Album_add_72, s_Album_add_75, s_Album_add_77, s_Album_add_78, s_Album_add_81, s_Album_add_82, s_Album_add_85, s_Album_add_87, s_Album_add_88, s_Album_add_90, s_Album_add_91, s_Album_add_93, s_Album_add_94, s_Album_add_95, s_Album_add_98, s_Album_add_100, s_Album_add_102, s_Album_add_103, s_Album_add_104, s_Album_add_107, s_Album_add_108, s_Album_add_110, s_Album_add_111, s_Album_add_114, s_Album_add_117, s_Album_add_118, s_Album_add_119, s_Album_add_122, s_Album_add_123, s_Album_add_124, s_Album_add_127, s_Album_add_128, s_Album_add_131, s_Album_add_132, s_Album_add_133, ↓reduceIte, Nat.reduceEqDiff, Nat.reduceLT, am_top, ax_f_some, ax_k_some, ax_k_none, s8_0, s8_1, s8_2, s8_3, s8_4, c2p_n, c2p_i, c2p_r, c2p_z, okvp_i, okvp_l, okvp_r, okvp_n, okvp_z, okvp_z0, okvp_z1, bi_narp, am_nar0p, am_nar1p, bi_0, bi_1, true_and, and_true, fld_set_ne, j_set_ne, q_set_ne, lv_set_ne, nv_set_ne, is_set_ne, j_set_eq, lv_set_eq, q_set_eq, nv_set_i, nv_set_l, nv_set_q, fld_put_ne, fld_put_k, fld_put_same, Option.map_some, j_put, q_put, lv_put, nv_put, is_put, put_1, set_1, r_9_0 hs2, r_9_1 hs2, r_9_2 hs2, r_9_3 hs2, r_9_4 hs2, r_9_5 hs2, i_9_6 hs2, i_9_7 hs2, o_9 hs2, g4, nI_1, nI_pred, aPic, not_false_eq_true]) n 0 (by omega) none
    have e0 : aDis (aPicA σ n sh tk g pe) (ga σ 14) = aPicA σ n sh tk g pe := by
      have e := set_selfj (j_14 hs)
      rw [g3] at e
      exact e
    simp only [addR, nI_0] at hl
    rw [e0] at hl
    unfold aPicA at hl
    simp only [s_Album_add_0, s_Album_add_1, s_Album_add_4, s_Album_add_6, s_Album_add_9, s_Album_add_10, s_Album_add_11, s_Album_add_12, s_Album_add_15, s_Album_add_16, s_Album_add_19, s_Album_add_20, s_Album_add_21, s_Album_add_22, s_Album_add_25, s_Album_add_26, s_Album_add_29, s_Album_add_30, s_Album_add_31, s_Album_add_32, s_Album_add_35, s_Album_add_36, s_Album_add_39, s_Album_add_40, s_Album_add_41, s_Album_add_42, s_Album_add_45, s_Album_add_46, s_Album_add_49, s_Album_add_51, s_Album_add_52, s_Album_add_53, s_Album_add_57, s_Album_add_58, s_Album_add_61, s_Album_add_64, s_Album_add_65, s_Album_add_66, s_Album_add_69, s_Album_add_71, s_Album_add_72, s_Album_add_75, s_Album_add_77, s_Album_add_78, s_Album_add_81, s_Album_add_82, s_Album_add_85, s_Album_add_87, s_Album_add_88, s_Album_add_90, s_Album_add_91, s_Album_add_93, s_Album_add_94, s_Album_add_95, s_Album_add_98, s_Album_add_100, s_Album_add_102, s_Album_add_103, s_Album_add_104, s_Album_add_107, s_Album_add_108, s_Album_add_110, s_Album_add_111, s_Album_add_114, s_Album_add_117, s_Album_add_118, s_Album_add_119, s_Album_add_122, s_Album_add_123, s_Album_add_124, s_Album_add_127, s_Album_add_128, s_Album_add_131, s_Album_add_132, s_Album_add_133, ↓reduceIte, Nat.reduceEqDiff, Nat.reduceLT, am_top, ax_f_some, ax_k_some, ax_k_none, s8_0, s8_1, s8_2, s8_3, s8_4, c2p_n, c2p_i, c2p_r, c2p_z, okvp_i, okvp_l, okvp_r, okvp_n, okvp_z, okvp_z0, okvp_z1, bi_narp, am_nar0p, am_nar1p, bi_0, bi_1, true_and, and_true, fld_set_ne, j_set_ne, q_set_ne, lv_set_ne, nv_set_ne, is_set_ne, j_set_eq, lv_set_eq, q_set_eq, nv_set_i, nv_set_l, nv_set_q, fld_put_ne, fld_put_k, fld_put_same, Option.map_some, j_put, q_put, lv_put, nv_put, is_put, put_1, set_1, r_9_0 h, r_9_1 h, r_9_2 h, r_9_3 h, r_9_4 h, r_9_5 h, i_9_6 h, i_9_7 h, o_9 h, j_10 h, n_10 h, j_11 h, n_11 h, l_13 h, n_13 h, j_12 h, n_12 h, hn, e40, hc, hix, hcl, if_neg c, not_false_eq_true]
    exact hl
theorem Al_distance (h : SH σ) (hn : gi σ 9 0 6 = nI n) (hle : n ≤ 40) (x y : Int32) : ax k_Album_distance 0 [some (.ref 9), some (.int x), some (.int y)] [] σ Q = Q (some (.int (if ltB x (nI n) = true ∧ ltB y (nI n) = true then ga σ 14 (x.toNatClampNeg * 40 + y.toNatClampNeg) else -1))) σ := by
  cases c1 : ltB x (nI n)
  · simp only [s_Album_distance_0, s_Album_distance_1, s_Album_distance_2, s_Album_distance_5, s_Album_distance_8, s_Album_distance_9, s_Album_distance_10, s_Album_distance_13, s_Album_distance_16, s_Album_distance_17, s_Album_distance_20, s_Album_distance_21, s_Album_distance_23, s_Album_distance_24, s_Album_distance_25, s_Album_distance_26, s_Album_distance_27, s_Album_distance_30, s_Album_distance_31, ↓reduceIte, Nat.reduceEqDiff, Nat.reduceLT, am_top, ax_f_some, ax_k_some, ax_k_none, s8_0, s8_1, s8_2, s8_3, s8_4, c2p_n, c2p_i, c2p_r, c2p_z, okvp_i, okvp_l, okvp_r, okvp_n, okvp_z, okvp_z0, okvp_z1, bi_narp, am_nar0p, am_nar1p, bi_0, bi_1, true_and, and_true, r_9_0 h, r_9_1 h, r_9_2 h, r_9_3 h, r_9_4 h, r_9_5 h, i_9_6 h, i_9_7 h, o_9 h, Al_isPicture h, hn, c1, Bool.false_eq_true, false_and]
  · cases c2 : ltB y (nI n)
    · simp only [s_Album_distance_0, s_Album_distance_1, s_Album_distance_2, s_Album_distance_5, s_Album_distance_8, s_Album_distance_9, s_Album_distance_10, s_Album_distance_13, s_Album_distance_16, s_Album_distance_17, s_Album_distance_20, s_Album_distance_21, s_Album_distance_23, s_Album_distance_24, s_Album_distance_25, s_Album_distance_26, s_Album_distance_27, s_Album_distance_30, s_Album_distance_31, ↓reduceIte, Nat.reduceEqDiff, Nat.reduceLT, am_top, ax_f_some, ax_k_some, ax_k_none, s8_0, s8_1, s8_2, s8_3, s8_4, c2p_n, c2p_i, c2p_r, c2p_z, okvp_i, okvp_l, okvp_r, okvp_n, okvp_z, okvp_z0, okvp_z1, bi_narp, am_nar0p, am_nar1p, bi_0, bi_1, true_and, and_true, r_9_0 h, r_9_1 h, r_9_2 h, r_9_3 h, r_9_4 h, r_9_5 h, i_9_6 h, i_9_7 h, o_9 h, Al_isPicture h, hn, c1, c2, Bool.false_eq_true, Bool.true_eq_false, and_false]
    · obtain ⟨a, ha, rfl⟩ := ltB_ix (by omega) c1
      obtain ⟨b, hb, rfl⟩ := ltB_ix (by omega) c2
      have hcla : (nI a).toNatClampNeg = a := nI_clamp (by omega)
      have hclb : (nI b).toNatClampNeg = b := nI_clamp (by omega)
      have hix1 := ix_nI (show a * 40 + b < 1600 by omega) (by omega)
      have hcl1 : (nI (a * 40 + b)).toNatClampNeg = a * 40 + b := nI_clamp (by omega)
      simp only [s_Album_distance_0, s_Album_distance_1, s_Album_distance_2, s_Album_distance_5, s_Album_distance_8, s_Album_distance_9, s_Album_distance_10, s_Album_distance_13, s_Album_distance_16, s_Album_distance_17, s_Album_distance_20, s_Album_distance_21, s_Album_distance_23, s_Album_distance_24, s_Album_distance_25, s_Album_distance_26, s_Album_distance_27, s_Album_distance_30, s_Album_distance_31, ↓reduceIte, Nat.reduceEqDiff, Nat.reduceLT, am_top, ax_f_some, ax_k_some, ax_k_none, s8_0, s8_1, s8_2, s8_3, s8_4, c2p_n, c2p_i, c2p_r, c2p_z, okvp_i, okvp_l, okvp_r, okvp_n, okvp_z, okvp_z0, okvp_z1, bi_narp, am_nar0p, am_nar1p, bi_0, bi_1, true_and, and_true, r_9_0 h, r_9_1 h, r_9_2 h, r_9_3 h, r_9_4 h, r_9_5 h, i_9_6 h, i_9_7 h, o_9 h, j_14 h, n_14 h, Al_isPicture h, hn, c1, c2, e40, pk_mul, nI_add, hcla, hclb, hix1, hcl1, Bool.true_eq_false]
theorem Al_shutterOf (h : SH σ) (hn : gi σ 9 0 6 = nI n) (hle : n ≤ 40) (x : Int32) : ax k_Album_shutterOf 0 [some (.ref 9), some (.int x)] [] σ Q = Q (some (.int (if ltB x (nI n) = true then ga σ 10 x.toNatClampNeg else -1))) σ := by
  cases c1 : ltB x (nI n)
  · simp only [s_Album_shutterOf_0, s_Album_shutterOf_1, s_Album_shutterOf_2, s_Album_shutterOf_5, s_Album_shutterOf_8, s_Album_shutterOf_9, s_Album_shutterOf_12, s_Album_shutterOf_13, s_Album_shutterOf_14, s_Album_shutterOf_17, s_Album_shutterOf_18, ↓reduceIte, Nat.reduceEqDiff, Nat.reduceLT, am_top, ax_f_some, ax_k_some, ax_k_none, s8_0, s8_1, s8_2, s8_3, s8_4, c2p_n, c2p_i, c2p_r, c2p_z, okvp_i, okvp_l, okvp_r, okvp_n, okvp_z, okvp_z0, okvp_z1, bi_narp, am_nar0p, am_nar1p, bi_0, bi_1, true_and, and_true, r_9_0 h, r_9_1 h, r_9_2 h, r_9_3 h, r_9_4 h, r_9_5 h, i_9_6 h, i_9_7 h, o_9 h, Al_isPicture h, hn, c1, Bool.false_eq_true]
  · obtain ⟨a, ha, rfl⟩ := ltB_ix (by omega) c1
    have hix1 := ix_nI (show a < 40 by omega) (by omega)
    simp only [s_Album_shutterOf_0, s_Album_shutterOf_1, s_Album_shutterOf_2, s_Album_shutterOf_5, s_Album_shutterOf_8, s_Album_shutterOf_9, s_Album_shutterOf_12, s_Album_shutterOf_13, s_Album_shutterOf_14, s_Album_shutterOf_17, s_Album_shutterOf_18, ↓reduceIte, Nat.reduceEqDiff, Nat.reduceLT, am_top, ax_f_some, ax_k_some, ax_k_none, s8_0, s8_1, s8_2, s8_3, s8_4, c2p_n, c2p_i, c2p_r, c2p_z, okvp_i, okvp_l, okvp_r, okvp_n, okvp_z, okvp_z0, okvp_z1, bi_narp, am_nar0p, am_nar1p, bi_0, bi_1, true_and, and_true, r_9_0 h, r_9_1 h, r_9_2 h, r_9_3 h, r_9_4 h, r_9_5 h, i_9_6 h, i_9_7 h, o_9 h, j_10 h, n_10 h, Al_isPicture h, hn, c1, hix1, Bool.true_eq_false]
theorem Al_personsOn (h : SH σ) (hn : gi σ 9 0 6 = nI n) (hle : n ≤ 40) (x : Int32) : ax k_Album_personsOn 0 [some (.ref 9), some (.int x)] [] σ Q = Q (some (.int (if ltB x (nI n) = true then ga σ 12 x.toNatClampNeg else 0))) σ := by
  cases c1 : ltB x (nI n)
  · simp only [s_Album_personsOn_0, s_Album_personsOn_1, s_Album_personsOn_2, s_Album_personsOn_5, s_Album_personsOn_8, s_Album_personsOn_9, s_Album_personsOn_12, s_Album_personsOn_13, s_Album_personsOn_14, s_Album_personsOn_17, s_Album_personsOn_18, ↓reduceIte, Nat.reduceEqDiff, Nat.reduceLT, am_top, ax_f_some, ax_k_some, ax_k_none, s8_0, s8_1, s8_2, s8_3, s8_4, c2p_n, c2p_i, c2p_r, c2p_z, okvp_i, okvp_l, okvp_r, okvp_n, okvp_z, okvp_z0, okvp_z1, bi_narp, am_nar0p, am_nar1p, bi_0, bi_1, true_and, and_true, r_9_0 h, r_9_1 h, r_9_2 h, r_9_3 h, r_9_4 h, r_9_5 h, i_9_6 h, i_9_7 h, o_9 h, Al_isPicture h, hn, c1, Bool.false_eq_true]
  · obtain ⟨a, ha, rfl⟩ := ltB_ix (by omega) c1
    have hix1 := ix_nI (show a < 40 by omega) (by omega)
    simp only [s_Album_personsOn_0, s_Album_personsOn_1, s_Album_personsOn_2, s_Album_personsOn_5, s_Album_personsOn_8, s_Album_personsOn_9, s_Album_personsOn_12, s_Album_personsOn_13, s_Album_personsOn_14, s_Album_personsOn_17, s_Album_personsOn_18, ↓reduceIte, Nat.reduceEqDiff, Nat.reduceLT, am_top, ax_f_some, ax_k_some, ax_k_none, s8_0, s8_1, s8_2, s8_3, s8_4, c2p_n, c2p_i, c2p_r, c2p_z, okvp_i, okvp_l, okvp_r, okvp_n, okvp_z, okvp_z0, okvp_z1, bi_narp, am_nar0p, am_nar1p, bi_0, bi_1, true_and, and_true, r_9_0 h, r_9_1 h, r_9_2 h, r_9_3 h, r_9_4 h, r_9_5 h, i_9_6 h, i_9_7 h, o_9 h, j_12 h, n_12 h, Al_isPicture h, hn, c1, hix1, Bool.true_eq_false]
theorem Al_set_in (h : SH σ) (hn : gi σ 9 0 6 = nI n) (hle : n ≤ 40) (pic : Int32) {i x : Nat} (hx : x < n) (A : Prop) : ∀ j k, k + j = n → ∀ s : BS, BOk n s → i < s.2.2 → s.2.1 i = nI x → (ax k_Album_setOf 114 [some (.ref 9), some (.int pic), some (.long (inS (aLk σ) x k j s).1), none, some (.int (nI (inS (aLk σ) x k j s).2.2)), some (.int (nI i)), some (.int (nI n))] [] (aChn σ (inS (aLk σ) x k j s).2.1) Q = A) → ax k_Album_setOf 44 [some (.ref 9), some (.int pic), some (.long s.1), none, some (.int (nI s.2.2)), some (.int (nI i)), some (.int (nI k))] [] (aChn σ s.2.1) Q = A := by
  intro j
  induction j with
  | zero =>
    intro k hk s hs1 hi hf hA
    have hk : k = n := by omega
    subst hk
    have hs := SH_aChn h s.2.1
    have g1 : gi (aChn σ s.2.1) 9 0 6 = nI k := by rw [gi_set_ne (by decide)]; exact hn
    have hc : ¬ nI k < nI k := Int32.lt_irrefl
    rw [s_Album_setOf_44]
    simp only [s_Album_setOf_0, s_Album_setOf_1, s_Album_setOf_2, s_Album_setOf_5, s_Album_setOf_8, s_Album_setOf_9, s_Album_setOf_10, s_Album_setOf_11, s_Album_setOf_12, s_Album_setOf_13, s_Album_setOf_14, s_Album_setOf_15, s_Album_setOf_18, s_Album_setOf_19, s_Album_setOf_20, s_Album_setOf_21, s_Album_setOf_22, s_Album_setOf_24, s_Album_setOf_25, s_Album_setOf_29, s_Album_setOf_31, s_Album_setOf_34, s_Album_setOf_36, s_Album_setOf_38, s_Album_setOf_41, s_Album_setOf_42, s_Album_setOf_46, s_Album_setOf_47, s_Album_setOf_50, s_Album_setOf_53, s_Album_setOf_54, s_Album_setOf_56, s_Album_setOf_59, s_Album_setOf_62, s_Album_setOf_63, s_Album_setOf_64, s_Album_setOf_67, s_Album_setOf_69, s_Album_setOf_70, s_Album_setOf_72, s_Album_setOf_75, s_Album_setOf_76, s_Album_setOf_79, s_Album_setOf_82, s_Album_setOf_84, s_Album_setOf_86, s_Album_setOf_89, s_Album_setOf_90, s_Album_setOf_91, s_Album_setOf_93, s_Album_setOf_94, s_Album_setOf_95, s_Album_setOf_96, s_Album_setOf_97, s_Album_setOf_100, s_Album_setOf_102, s_Album_setOf_104, s_Album_setOf_105, s_Album_setOf_108, s_Album_setOf_111, s_Album_setOf_117, s_Album_setOf_120, s_Album_setOf_121, ↓reduceIte, Nat.reduceEqDiff, Nat.reduceLT, am_top, ax_f_some, ax_k_some, ax_k_none, s8_0, s8_1, s8_2, s8_3, s8_4, c2p_n, c2p_i, c2p_r, c2p_z, okvp_i, okvp_l, okvp_r, okvp_n, okvp_z, okvp_z0, okvp_z1, bi_narp, am_nar0p, am_nar1p, bi_0, bi_1, true_and, and_true, r_9_0 hs, r_9_1 hs, r_9_2 hs, r_9_3 hs, r_9_4 hs, r_9_5 hs, i_9_6 hs, i_9_7 hs, o_9 hs, g1, hc]
    exact hA
  | succ j ih =>
    intro k hk s hs1 hi hf hA
    have ok := stB_ok (lk := aLk σ) (x := x) (show k < n by omega) hs1
    have ih := ih (k + 1) (by omega) (stB (aLk σ) x k s) ok.1 (Nat.lt_of_lt_of_le hi ok.2.1) ((ok.2.2 i hi).trans hf)
    simp only [inS] at hA
    have ih := ih hA
    have hs := SH_aChn h s.2.1
    have g1 : gi (aChn σ s.2.1) 9 0 6 = nI n := by rw [gi_set_ne (by decide)]; exact hn
    have g2 : gi (aChn σ s.2.1) 9 0 7 = gi σ 9 0 7 := gi_set_ne (by decide)
    have g3 : ga (aChn σ s.2.1) 14 = ga σ 14 := ga_set_ne (by decide)
    have g4 : ga (aChn σ s.2.1) 15 = s.2.1 := ga_set_eq
    have hc : nI k < nI n := nI_lt (by omega) (by omega)
    have hl40 := hs1.1
    have hixi := ix_nI (show i < 40 by omega) (by omega)
    have hcli : (nI i).toNatClampNeg = i := nI_clamp (by omega)
    have hclx : (nI x).toNatClampNeg = x := nI_clamp (by omega)
    have hclk : (nI k).toNatClampNeg = k := nI_clamp (by omega)
    have bx := ltB_nI hx (by omega)
    have bk := ltB_nI (show k < n by omega) (by omega)
    rw [s_Album_setOf_44]
    simp only [s_Album_setOf_0, s_Album_setOf_1, s_Album_setOf_2, s_Album_setOf_5, s_Album_setOf_8, s_Album_setOf_9, s_Album_setOf_10, s_Album_setOf_11, s_Album_setOf_12, s_Album_setOf_13, s_Album_setOf_14, s_Album_setOf_15, s_Album_setOf_18, s_Album_setOf_19, s_Album_setOf_20, s_Album_setOf_21, s_Album_setOf_22, s_Album_setOf_24, s_Album_setOf_25, s_Album_setOf_29, s_Album_setOf_31, s_Album_setOf_34, s_Album_setOf_36, s_Album_setOf_38, s_Album_setOf_41, s_Album_setOf_42, s_Album_setOf_46, s_Album_setOf_47, s_Album_setOf_50, s_Album_setOf_53, s_Album_setOf_54, s_Album_setOf_56, s_Album_setOf_59, s_Album_setOf_62, s_Album_setOf_63, s_Album_setOf_64, s_Album_setOf_67, s_Album_setOf_69, s_Album_setOf_70, s_Album_setOf_72, s_Album_setOf_75, s_Album_setOf_76, s_Album_setOf_79, s_Album_setOf_82, s_Album_setOf_84, s_Album_setOf_86, s_Album_setOf_89, s_Album_setOf_90, s_Album_setOf_91, s_Album_setOf_93, s_Album_setOf_94, s_Album_setOf_95, s_Album_setOf_96, s_Album_setOf_97, s_Album_setOf_100, s_Album_setOf_102, s_Album_setOf_104, s_Album_setOf_105, s_Album_setOf_108, s_Album_setOf_111, s_Album_setOf_117, s_Album_setOf_120, s_Album_setOf_121, ↓reduceIte, Nat.reduceEqDiff, Nat.reduceLT, am_top, ax_f_some, ax_k_some, ax_k_none, s8_0, s8_1, s8_2, s8_3, s8_4, c2p_n, c2p_i, c2p_r, c2p_z, okvp_i, okvp_l, okvp_r, okvp_n, okvp_z, okvp_z0, okvp_z1, bi_narp, am_nar0p, am_nar1p, bi_0, bi_1, true_and, and_true, r_9_0 hs, r_9_1 hs, r_9_2 hs, r_9_3 hs, r_9_4 hs, r_9_5 hs, i_9_6 hs, i_9_7 hs, o_9 hs, j_15 hs, n_15 hs, g1, g2, g3, g4, hc, A_holds, Al_distance hs g1 hle, hixi, hcli, hf, bx, bk, hclx, hclk, e40, nI_1, set_set]
    unfold stB at ih
    cases c1 : hldB s.1 (nI k)
    · by_cases c2 : gi σ 9 0 7 < ga σ 14 (x * 40 + k)
      · have e2 : aLk σ x k = false := by simp [aLk, c2]
        simp only [c1, e2, Bool.false_eq_true, and_false, false_and, ↓reduceIte] at ih
        simp only [if_pos c2, ↓reduceIte]
        exact ih
      · have e2 : aLk σ x k = true := by simp [aLk, c2]
        by_cases c3 : s.2.2 < 40
        · have hc3 : nI s.2.2 < nI 40 := nI_lt c3 (by omega)
          have hixl := ix_nI c3 (by omega)
          have hcll : (nI s.2.2).toNatClampNeg = s.2.2 := nI_clamp (by omega)
          simp only [c1, e2, c3, and_self, ↓reduceIte] at ih
          simp only [if_neg c2, hc3, hixl, hcll, true_and, ↓reduceIte]
          exact ih
        · have hc3 : ¬ nI s.2.2 < nI 40 := nI_nlt (by omega) (by omega)
          simp only [c1, e2, c3, and_false, ↓reduceIte] at ih
          simp only [if_neg c2, hc3, ↓reduceIte]
          exact ih
    · simp only [c1, Bool.true_eq_false, false_and, ↓reduceIte] at ih
      simp only [Bool.true_eq_false, ↓reduceIte]
      exact ih
theorem Al_set_out (h : SH σ) (hn : gi σ 9 0 6 = nI n) (hle : n ≤ 40) (pic : Int32) : ∀ c i, i + c = 40 → ∀ s : BS, BOk n s → ∀ z : Option Value, ax k_Album_setOf 27 [some (.ref 9), some (.int pic), some (.long s.1), none, some (.int (nI s.2.2)), some (.int (nI i)), z] [] (aChn σ s.2.1) Q = Q (some (.long (ouS (aLk σ) n c i s).1)) (aChn σ (ouS (aLk σ) n c i s).2.1) := by
  intro c
  induction c with
  | zero =>
    intro i hi s hs1 z
    have hl := hs1.1
    have hc : ¬ nI i < nI s.2.2 := nI_nlt (by omega) (by omega)
    rw [s_Album_setOf_27]
    simp only [s_Album_setOf_0, s_Album_setOf_1, s_Album_setOf_2, s_Album_setOf_5, s_Album_setOf_8, s_Album_setOf_9, s_Album_setOf_10, s_Album_setOf_11, s_Album_setOf_12, s_Album_setOf_13, s_Album_setOf_14, s_Album_setOf_15, s_Album_setOf_18, s_Album_setOf_19, s_Album_setOf_20, s_Album_setOf_21, s_Album_setOf_22, s_Album_setOf_24, s_Album_setOf_25, s_Album_setOf_29, s_Album_setOf_31, s_Album_setOf_34, s_Album_setOf_36, s_Album_setOf_38, s_Album_setOf_41, s_Album_setOf_42, s_Album_setOf_46, s_Album_setOf_47, s_Album_setOf_50, s_Album_setOf_53, s_Album_setOf_54, s_Album_setOf_56, s_Album_setOf_59, s_Album_setOf_62, s_Album_setOf_63, s_Album_setOf_64, s_Album_setOf_67, s_Album_setOf_69, s_Album_setOf_70, s_Album_setOf_72, s_Album_setOf_75, s_Album_setOf_76, s_Album_setOf_79, s_Album_setOf_82, s_Album_setOf_84, s_Album_setOf_86, s_Album_setOf_89, s_Album_setOf_90, s_Album_setOf_91, s_Album_setOf_93, s_Album_setOf_94, s_Album_setOf_95, s_Album_setOf_96, s_Album_setOf_97, s_Album_setOf_100, s_Album_setOf_102, s_Album_setOf_104, s_Album_setOf_105, s_Album_setOf_108, s_Album_setOf_111, s_Album_setOf_114, s_Album_setOf_117, s_Album_setOf_120, s_Album_setOf_121, ↓reduceIte, Nat.reduceEqDiff, Nat.reduceLT, am_top, ax_f_some, ax_k_some, ax_k_none, s8_0, s8_1, s8_2, s8_3, s8_4, c2p_n, c2p_i, c2p_r, c2p_z, okvp_i, okvp_l, okvp_r, okvp_n, okvp_z, okvp_z0, okvp_z1, bi_narp, am_nar0p, am_nar1p, bi_0, bi_1, true_and, and_true, hc, ouS]
  | succ c ih =>
    intro i hi s hs1 z
    have hl := hs1.1
    rw [s_Album_setOf_27]
    by_cases c1 : i < s.2.2
    · have hc : nI i < nI s.2.2 := nI_lt c1 (by omega)
      have hc2 : nI i < nI 40 := nI_lt (by omega) (by omega)
      obtain ⟨x, hx, hf⟩ := hs1.2 i c1
      have hclx : (nI x).toNatClampNeg = x := nI_clamp (by omega)
      have ok := inS_ok (lk := aLk σ) (x := x) n 0 s (by omega) hs1
      have ih := ih (i + 1) (by omega) (inS (aLk σ) x 0 n s) ok.1 (some (.int (nI n)))
      have hin := Al_set_in (Q := Q) h hn hle pic hx _ n 0 (by omega) s hs1 c1 hf rfl
      rw [nI_0] at hin
      simp only [s_Album_setOf_0, s_Album_setOf_1, s_Album_setOf_2, s_Album_setOf_5, s_Album_setOf_8, s_Album_setOf_9, s_Album_setOf_10, s_Album_setOf_11, s_Album_setOf_12, s_Album_setOf_13, s_Album_setOf_14, s_Album_setOf_15, s_Album_setOf_18, s_Album_setOf_19, s_Album_setOf_20, s_Album_setOf_21, s_Album_setOf_22, s_Album_setOf_24, s_Album_setOf_25, s_Album_setOf_29, s_Album_setOf_31, s_Album_setOf_34, s_Album_setOf_36, s_Album_setOf_38, s_Album_setOf_41, s_Album_setOf_42, s_Album_setOf_46, s_Album_setOf_47, s_Album_setOf_50, s_Album_setOf_53, s_Album_setOf_54, s_Album_setOf_56, s_Album_setOf_59, s_Album_setOf_62, s_Album_setOf_63, s_Album_setOf_64, s_Album_setOf_67, s_Album_setOf_69, s_Album_setOf_70, s_Album_setOf_72, s_Album_setOf_75, s_Album_setOf_76, s_Album_setOf_79, s_Album_setOf_82, s_Album_setOf_84, s_Album_setOf_86, s_Album_setOf_89, s_Album_setOf_90, s_Album_setOf_91, s_Album_setOf_93, s_Album_setOf_94, s_Album_setOf_95, s_Album_setOf_96, s_Album_setOf_97, s_Album_setOf_100, s_Album_setOf_102, s_Album_setOf_104, s_Album_setOf_105, s_Album_setOf_108, s_Album_setOf_111, s_Album_setOf_114, s_Album_setOf_117, s_Album_setOf_120, s_Album_setOf_121, ↓reduceIte, Nat.reduceEqDiff, Nat.reduceLT, am_top, ax_f_some, ax_k_some, ax_k_none, s8_0, s8_1, s8_2, s8_3, s8_4, c2p_n, c2p_i, c2p_r, c2p_z, okvp_i, okvp_l, okvp_r, okvp_n, okvp_z, okvp_z0, okvp_z1, bi_narp, am_nar0p, am_nar1p, bi_0, bi_1, true_and, and_true, hc, hc2, e40]
      rw [hin]
      simp only [s_Album_setOf_0, s_Album_setOf_1, s_Album_setOf_2, s_Album_setOf_5, s_Album_setOf_8, s_Album_setOf_9, s_Album_setOf_10, s_Album_setOf_11, s_Album_setOf_12, s_Album_setOf_13, s_Album_setOf_14, s_Album_setOf_15, s_Album_setOf_18, s_Album_setOf_19, s_Album_setOf_20, s_Album_setOf_21, s_Album_setOf_22, s_Album_setOf_24, s_Album_setOf_25, s_Album_setOf_29, s_Album_setOf_31, s_Album_setOf_34, s_Album_setOf_36, s_Album_setOf_38, s_Album_setOf_41, s_Album_setOf_42, s_Album_setOf_46, s_Album_setOf_47, s_Album_setOf_50, s_Album_setOf_53, s_Album_setOf_54, s_Album_setOf_56, s_Album_setOf_59, s_Album_setOf_62, s_Album_setOf_63, s_Album_setOf_64, s_Album_setOf_67, s_Album_setOf_69, s_Album_setOf_70, s_Album_setOf_72, s_Album_setOf_75, s_Album_setOf_76, s_Album_setOf_79, s_Album_setOf_82, s_Album_setOf_84, s_Album_setOf_86, s_Album_setOf_89, s_Album_setOf_90, s_Album_setOf_91, s_Album_setOf_93, s_Album_setOf_94, s_Album_setOf_95, s_Album_setOf_96, s_Album_setOf_97, s_Album_setOf_100, s_Album_setOf_102, s_Album_setOf_104, s_Album_setOf_105, s_Album_setOf_108, s_Album_setOf_111, s_Album_setOf_114, s_Album_setOf_117, s_Album_setOf_120, s_Album_setOf_121, ↓reduceIte, Nat.reduceEqDiff, Nat.reduceLT, am_top, ax_f_some, ax_k_some, ax_k_none, s8_0, s8_1, s8_2, s8_3, s8_4, c2p_n, c2p_i, c2p_r, c2p_z, okvp_i, okvp_l, okvp_r, okvp_n, okvp_z, okvp_z0, okvp_z1, bi_narp, am_nar0p, am_nar1p, bi_0, bi_1, true_and, and_true, nI_1]
      simp only [ouS, if_pos c1, hf, hclx]
      exact ih
    · have hc : ¬ nI i < nI s.2.2 := nI_nlt (by omega) (by omega)
      simp only [s_Album_setOf_0, s_Album_setOf_1, s_Album_setOf_2, s_Album_setOf_5, s_Album_setOf_8, s_Album_setOf_9, s_Album_setOf_10, s_Album_setOf_11, s_Album_setOf_12, s_Album_setOf_13, s_Album_setOf_14, s_Album_setOf_15, s_Album_setOf_18, s_Album_setOf_19, s_Album_setOf_20, s_Album_setOf_21, s_Album_setOf_22, s_Album_setOf_24, s_Album_setOf_25, s_Album_setOf_29, s_Album_setOf_31, s_Album_setOf_34, s_Album_setOf_36, s_Album_setOf_38, s_Album_setOf_41, s_Album_setOf_42, s_Album_setOf_46, s_Album_setOf_47, s_Album_setOf_50, s_Album_setOf_53, s_Album_setOf_54, s_Album_setOf_56, s_Album_setOf_59, s_Album_setOf_62, s_Album_setOf_63, s_Album_setOf_64, s_Album_setOf_67, s_Album_setOf_69, s_Album_setOf_70, s_Album_setOf_72, s_Album_setOf_75, s_Album_setOf_76, s_Album_setOf_79, s_Album_setOf_82, s_Album_setOf_84, s_Album_setOf_86, s_Album_setOf_89, s_Album_setOf_90, s_Album_setOf_91, s_Album_setOf_93, s_Album_setOf_94, s_Album_setOf_95, s_Album_setOf_96, s_Album_setOf_97, s_Album_setOf_100, s_Album_setOf_102, s_Album_setOf_104, s_Album_setOf_105, s_Album_setOf_108, s_Album_setOf_111, s_Album_setOf_114, s_Album_setOf_117, s_Album_setOf_120, s_Album_setOf_121, ↓reduceIte, Nat.reduceEqDiff, Nat.reduceLT, am_top, ax_f_some, ax_k_some, ax_k_none, s8_0, s8_1, s8_2, s8_3, s8_4, c2p_n, c2p_i, c2p_r, c2p_z, okvp_i, okvp_l, okvp_r, okvp_n, okvp_z, okvp_z0, okvp_z1, bi_narp, am_nar0p, am_nar1p, bi_0, bi_1, true_and, and_true, hc, ouS, if_neg c1]
def setB (σ : am_H) (n x : Nat) : BS := ouS (aLk σ) n 40 0 ((1 : Int64) <<< ((nI x).toInt64 &&& 63), upd (ga σ 15) 0 (nI x), 1)
theorem Al_setOf (h : SH σ) (hn : gi σ 9 0 6 = nI n) (hle : n ≤ 40) {x : Nat} (hx : x < n) : ax k_Album_setOf 0 [some (.ref 9), some (.int (nI x)), none, none, none, none, none] [] σ Q = Q (some (.long (setB σ n x).1)) (aChn σ (setB σ n x).2.1) := by
  have bx := ltB_nI hx (by omega)
  have ok : BOk n ((1 : Int64) <<< ((nI x).toInt64 &&& 63), upd (ga σ 15) 0 (nI x), 1) := by
    refine ⟨by show 1 ≤ 40; decide, fun i hi => ?_⟩
    have : i = 0 := by dsimp only at hi; omega
    subst this
    exact ⟨x, hx, by show upd (ga σ 15) 0 (nI x) 0 = nI x; exact pk_us⟩
  have hl := Al_set_out (Q := Q) h hn hle (nI x) 40 0 (by omega) _ ok none
  have hix := ix_nI (show 0 < 40 by omega) (by omega)
  have hcl : (nI 0).toNatClampNeg = 0 := nI_clamp (by omega)
  have e1 : (1 : Int32) = nI 1 := by decide
  rw [nI_0] at hl hix hcl
  simp only [← e1] at hl
  simp only [s_Album_setOf_0, s_Album_setOf_1, s_Album_setOf_2, s_Album_setOf_5, s_Album_setOf_8, s_Album_setOf_9, s_Album_setOf_10, s_Album_setOf_11, s_Album_setOf_12, s_Album_setOf_13, s_Album_setOf_14, s_Album_setOf_15, s_Album_setOf_18, s_Album_setOf_19, s_Album_setOf_20, s_Album_setOf_21, s_Album_setOf_22, s_Album_setOf_24, s_Album_setOf_25, s_Album_setOf_29, s_Album_setOf_31, s_Album_setOf_34, s_Album_setOf_36, s_Album_setOf_38, s_Album_setOf_41, s_Album_setOf_42, s_Album_setOf_46, s_Album_setOf_47, s_Album_setOf_50, s_Album_setOf_53, s_Album_setOf_54, s_Album_setOf_56, s_Album_setOf_59, s_Album_setOf_62, s_Album_setOf_63, s_Album_setOf_64, s_Album_setOf_67, s_Album_setOf_69, s_Album_setOf_70, s_Album_setOf_72, s_Album_setOf_75, s_Album_setOf_76, s_Album_setOf_79, s_Album_setOf_82, s_Album_setOf_84, s_Album_setOf_86, s_Album_setOf_89, s_Album_setOf_90, s_Album_setOf_91, s_Album_setOf_93, s_Album_setOf_94, s_Album_setOf_95, s_Album_setOf_96, s_Album_setOf_97, s_Album_setOf_100, s_Album_setOf_102, s_Album_setOf_104, s_Album_setOf_105, s_Album_setOf_108, s_Album_setOf_111, s_Album_setOf_114, s_Album_setOf_117, s_Album_setOf_120, s_Album_setOf_121, ↓reduceIte, Nat.reduceEqDiff, Nat.reduceLT, am_top, ax_f_some, ax_k_some, ax_k_none, s8_0, s8_1, s8_2, s8_3, s8_4, c2p_n, c2p_i, c2p_r, c2p_z, okvp_i, okvp_l, okvp_r, okvp_n, okvp_z, okvp_z0, okvp_z1, bi_narp, am_nar0p, am_nar1p, bi_0, bi_1, true_and, and_true, r_9_0 h, r_9_1 h, r_9_2 h, r_9_3 h, r_9_4 h, r_9_5 h, i_9_6 h, i_9_7 h, o_9 h, j_15 h, n_15 h, Al_isPicture h, hn, bx, hix, hcl, Bool.true_eq_false]
  exact hl
theorem Al_setOf_no (h : SH σ) (hn : gi σ 9 0 6 = nI n) {x : Int32} (hx : ltB x (nI n) = false) : ax k_Album_setOf 0 [some (.ref 9), some (.int x), none, none, none, none, none] [] σ Q = Q (some (.long 0)) σ := by
  simp only [s_Album_setOf_0, s_Album_setOf_1, s_Album_setOf_2, s_Album_setOf_5, s_Album_setOf_8, s_Album_setOf_9, s_Album_setOf_10, s_Album_setOf_11, s_Album_setOf_12, s_Album_setOf_13, s_Album_setOf_14, s_Album_setOf_15, s_Album_setOf_18, s_Album_setOf_19, s_Album_setOf_20, s_Album_setOf_21, s_Album_setOf_22, s_Album_setOf_24, s_Album_setOf_25, s_Album_setOf_29, s_Album_setOf_31, s_Album_setOf_34, s_Album_setOf_36, s_Album_setOf_38, s_Album_setOf_41, s_Album_setOf_42, s_Album_setOf_46, s_Album_setOf_47, s_Album_setOf_50, s_Album_setOf_53, s_Album_setOf_54, s_Album_setOf_56, s_Album_setOf_59, s_Album_setOf_62, s_Album_setOf_63, s_Album_setOf_64, s_Album_setOf_67, s_Album_setOf_69, s_Album_setOf_70, s_Album_setOf_72, s_Album_setOf_75, s_Album_setOf_76, s_Album_setOf_79, s_Album_setOf_82, s_Album_setOf_84, s_Album_setOf_86, s_Album_setOf_89, s_Album_setOf_90, s_Album_setOf_91, s_Album_setOf_93, s_Album_setOf_94, s_Album_setOf_95, s_Album_setOf_96, s_Album_setOf_97, s_Album_setOf_100, s_Album_setOf_102, s_Album_setOf_104, s_Album_setOf_105, s_Album_setOf_108, s_Album_setOf_111, s_Album_setOf_114, s_Album_setOf_117, s_Album_setOf_120, s_Album_setOf_121, ↓reduceIte, Nat.reduceEqDiff, Nat.reduceLT, am_top, ax_f_some, ax_k_some, ax_k_none, s8_0, s8_1, s8_2, s8_3, s8_4, c2p_n, c2p_i, c2p_r, c2p_z, okvp_i, okvp_l, okvp_r, okvp_n, okvp_z, okvp_z0, okvp_z1, bi_narp, am_nar0p, am_nar1p, bi_0, bi_1, true_and, and_true, r_9_0 h, r_9_1 h, r_9_2 h, r_9_3 h, r_9_4 h, r_9_5 h, i_9_6 h, i_9_7 h, o_9 h, Al_isPicture h, hn, hx, Bool.false_eq_true]
def firA (σ : am_H) (c : Int64) (n : Nat) : Int32 := firR (fun j => bi (hldB c (nI j))) (ga σ 11) n
theorem Al_firstOf_loop (h : SH σ) (hn : gi σ 9 0 6 = nI n) (hle : n ≤ 40) (c : Int64) : ∀ j k, k + j = n → ax k_Album_firstOf 5 [some (.ref 9), some (.long c), none, some (.int (firA σ c k)), some (.int (nI k))] [] σ Q = Q (some (.int (firA σ c n))) σ := by
  intro j
  induction j with
  | zero =>
    intro k hk
    have hk : k = n := by omega
    subst hk
    have hc : ¬ nI k < nI k := Int32.lt_irrefl
    rw [s_Album_firstOf_5]
    simp only [s_Album_firstOf_0, s_Album_firstOf_1, s_Album_firstOf_2, s_Album_firstOf_3, s_Album_firstOf_7, s_Album_firstOf_8, s_Album_firstOf_11, s_Album_firstOf_14, s_Album_firstOf_15, s_Album_firstOf_17, s_Album_firstOf_20, s_Album_firstOf_23, s_Album_firstOf_24, s_Album_firstOf_25, s_Album_firstOf_28, s_Album_firstOf_29, s_Album_firstOf_32, s_Album_firstOf_34, s_Album_firstOf_35, s_Album_firstOf_36, s_Album_firstOf_39, s_Album_firstOf_40, s_Album_firstOf_41, s_Album_firstOf_44, s_Album_firstOf_46, s_Album_firstOf_47, s_Album_firstOf_50, s_Album_firstOf_53, s_Album_firstOf_54, ↓reduceIte, Nat.reduceEqDiff, Nat.reduceLT, am_top, ax_f_some, ax_k_some, ax_k_none, s8_0, s8_1, s8_2, s8_3, s8_4, c2p_n, c2p_i, c2p_r, c2p_z, okvp_i, okvp_l, okvp_r, okvp_n, okvp_z, okvp_z0, okvp_z1, bi_narp, am_nar0p, am_nar1p, bi_0, bi_1, true_and, and_true, r_9_0 h, r_9_1 h, r_9_2 h, r_9_3 h, r_9_4 h, r_9_5 h, i_9_6 h, i_9_7 h, o_9 h, hn, hc]
  | succ j ih =>
    intro k hk
    have ih := ih (k + 1) (by omega)
    have hc : nI k < nI n := nI_lt (by omega) (by omega)
    have hix := ix_nI (show k < 40 by omega) (by omega)
    have hcl : (nI k).toNatClampNeg = k := nI_clamp (by omega)
    rw [s_Album_firstOf_5]
    simp only [s_Album_firstOf_0, s_Album_firstOf_1, s_Album_firstOf_2, s_Album_firstOf_3, s_Album_firstOf_7, s_Album_firstOf_8, s_Album_firstOf_11, s_Album_firstOf_14, s_Album_firstOf_15, s_Album_firstOf_17, s_Album_firstOf_20, s_Album_firstOf_23, s_Album_firstOf_24, s_Album_firstOf_25, s_Album_firstOf_28, s_Album_firstOf_29, s_Album_firstOf_32, s_Album_firstOf_34, s_Album_firstOf_35, s_Album_firstOf_36, s_Album_firstOf_39, s_Album_firstOf_40, s_Album_firstOf_41, s_Album_firstOf_44, s_Album_firstOf_46, s_Album_firstOf_47, s_Album_firstOf_50, s_Album_firstOf_53, s_Album_firstOf_54, ↓reduceIte, Nat.reduceEqDiff, Nat.reduceLT, am_top, ax_f_some, ax_k_some, ax_k_none, s8_0, s8_1, s8_2, s8_3, s8_4, c2p_n, c2p_i, c2p_r, c2p_z, okvp_i, okvp_l, okvp_r, okvp_n, okvp_z, okvp_z0, okvp_z1, bi_narp, am_nar0p, am_nar1p, bi_0, bi_1, true_and, and_true, r_9_0 h, r_9_1 h, r_9_2 h, r_9_3 h, r_9_4 h, r_9_5 h, i_9_6 h, i_9_7 h, o_9 h, j_11 h, n_11 h, hn, hc, A_holds, hix, hcl, nI_1]
    rw [← ih]
    unfold firA
    simp only [firR]
    by_cases c1 : hldB c (nI k) = true
    rotate_left
    · have c1' : hldB c (nI k) = false := by simpa using c1
      have b0 : bi false = 0 := rfl
      simp only [c1', b0, ↓reduceIte]
    · have b1 : (bi true = 0) = False := eq_false (by decide)
      rcases firR_in (fun j => bi (hldB c (nI j))) (ga σ 11) k (by omega) with e | ⟨q, hq, e⟩
      · have e0 : (-1 : Int32) < 0 := by decide
        simp only [c1, b1, e, if_pos e0, Bool.true_eq_false, ↓reduceIte]
      · have e0 : ¬ nI q < 0 := nI_pos (by omega)
        have em : ¬ nI q = -1 := by
          intro z
          rw [z] at e0
          exact e0 (by decide)
        have hix2 := ix_nI (show q < 40 by omega) (by omega)
        have hcl2 : (nI q).toNatClampNeg = q := nI_clamp (by omega)
        simp only [c1, b1, e, if_neg e0, if_neg em, hix2, hcl2, true_and, Bool.true_eq_false, ↓reduceIte]
        by_cases c3 : ga σ 11 k < ga σ 11 q
        · simp only [if_pos c3]
        · simp only [if_neg c3]
theorem Al_firstOf (h : SH σ) (hn : gi σ 9 0 6 = nI n) (hle : n ≤ 40) (c : Int64) : ax k_Album_firstOf 0 [some (.ref 9), some (.long c), none, none, none] [] σ Q = Q (some (.int (firA σ c n))) σ := by
  have hl := Al_firstOf_loop (Q := Q) h hn hle c n 0 (by omega)
  unfold firA at hl ⊢
  simp only [firR, nI_0] at hl
  simp only [s_Album_firstOf_0, s_Album_firstOf_1, s_Album_firstOf_2, s_Album_firstOf_3, s_Album_firstOf_7, s_Album_firstOf_8, s_Album_firstOf_11, s_Album_firstOf_14, s_Album_firstOf_15, s_Album_firstOf_17, s_Album_firstOf_20, s_Album_firstOf_23, s_Album_firstOf_24, s_Album_firstOf_25, s_Album_firstOf_28, s_Album_firstOf_29, s_Album_firstOf_32, s_Album_firstOf_34, s_Album_firstOf_35, s_Album_firstOf_36, s_Album_firstOf_39, s_Album_firstOf_40, s_Album_firstOf_41, s_Album_firstOf_44, s_Album_firstOf_46, s_Album_firstOf_47, s_Album_firstOf_50, s_Album_firstOf_53, s_Album_firstOf_54, ↓reduceIte, Nat.reduceEqDiff, Nat.reduceLT, am_top, ax_f_some, ax_k_some, ax_k_none, s8_0, s8_1, s8_2, s8_3, s8_4, c2p_n, c2p_i, c2p_r, c2p_z, okvp_i, okvp_l, okvp_r, okvp_n, okvp_z, okvp_z0, okvp_z1, bi_narp, am_nar0p, am_nar1p, bi_0, bi_1, true_and, and_true]
  exact hl
end A9
