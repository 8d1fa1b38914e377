/-! THE CLASS, 8: captions -/
theorem xI_toI {x : Nat} (hx : x < 2 ^ 31) : (nI x).toInt = x := Int32.toInt_ofNat_of_lt hx
theorem xI_div {x y : Nat} (hx : x < 2 ^ 31) (hy : y < 2 ^ 31) : nI x / nI y = nI (x / y) := by
  apply Int32.toInt_inj.mp
  have hq : x / y < 2 ^ 31 := Nat.lt_of_le_of_lt (Nat.div_le_self _ _) hx
  rw [Int32.toInt_div, xI_toI hx, xI_toI hy, xI_toI hq, ← Int.ofNat_tdiv]
  generalize x / y = q at *
  rw [Int.bmod_def]
  omega
theorem xI_sub {a b : Nat} (h : b ≤ a) : nI a - nI b = nI (a - b) := by
  apply Int32.toBitVec_inj.mp
  show BitVec.ofNat 32 a - BitVec.ofNat 32 b = BitVec.ofNat 32 (a - b)
  apply BitVec.eq_of_toNat_eq
  simp only [BitVec.toNat_sub, BitVec.toNat_ofNat]
  omega
theorem pair_d {a b : Nat} (ha : a < 40) (hb : b < 40) : nI (a * 40 + b) / nI 40 = nI a := by
  rw [xI_div (by omega) (by omega)]
  congr 1
  omega
theorem pair_m {a b : Nat} (ha : a < 40) (hb : b < 40) : nI (a * 40 + b) - nI a * nI 40 = nI b := by
  rw [pk_mul, xI_sub (by omega)]
  congr 1
  omega
def filR (f : Nat → Int64) (v : Int64) : Nat → Nat → Int64
  | 0 => f
  | n + 1 => vp_updL (filR f v n) n v
theorem filR_eq (f : Nat → Int64) (v : Int64) : ∀ n j, filR f v n j = if j < n then v else f j := by
  intro n
  induction n with
  | zero => intro j; rfl
  | succ n ih =>
    intro j
    simp only [filR, vp_updL]
    by_cases h1 : j = n
    · subst h1
      simp
    · rw [if_neg h1, ih]
      by_cases h2 : j < n
      · rw [if_pos h2, if_pos (show j < n + 1 by omega)]
      · rw [if_neg h2, if_neg (show ¬ j < n + 1 by omega)]
abbrev aRec (σ : am_H) (g : Nat → Int64) : am_H := am_set σ 21 (am_la 40 g)
theorem SH_aRec {σ : am_H} (h : SH σ) (g : Nat → Int64) : SH (aRec σ g) := SH_set_l h (by decide) (by decide) (by decide) (by decide) (by decide)
def capR (f : Nat → Int64) (fp fw : Nat → Nat) (fv : Nat → Int32) (old : Bool) : Nat → Nat → Int64
  | 0 => f
  | i + 1 => if fv i = 1 then vp_updL (capR f fp fw fv old i) (fp i) (capR f fp fw fv old i (fp i) ||| ((1 : Int64) <<< ((nI (fw i)).toInt64 &&& 63))) else if old = true then capR f fp fw fv old i else vp_updL (capR f fp fw fv old i) (fp i) (capR f fp fw fv old i (fp i) &&& (((1 : Int64) <<< ((nI (fw i)).toInt64 &&& 63)) ^^^ (-1)))
def pwR (g : Nat → Int64) (w : Int64) : Nat → Int64
  | 0 => 0
  | k + 1 => if g k &&& w = 0 then pwR g w k else pwR g w k ||| ((1 : Int64) <<< ((nI k).toInt64 &&& 63))
def capF (σ : am_H) (n : Nat) (fp fw : Nat → Nat) (m : Int32) (old : Bool) : Nat → Int64 := capR (filR (gL σ 21) 0 40) fp fw (ga σ 20) old (tolR (ga σ 18) m n 0)
section A8
variable {σ : am_H} {Q : Option Value → am_H → Prop} {n : Nat} {fp fw : Nat → Nat}
theorem C_change (h : SH σ) (hn : gi σ 17 3 3 = nI n) (hle : n ≤ 200) {i w : Nat} (b : Bool) (m : Int32) : ax k_Captions_change 0 [some (.ref 16), some (.int (nI i)), some (.int (nI w)), some (.int (bi b)), some (.int m), none, none] [] σ Q = (if latF (ga σ 18) (ga σ 19) (ga σ 20) (nI (i * 40 + w)) m 0 n = bi b then Q (some (.int 0)) σ else if ¬ n = 200 then Q (some (.int 1)) (aTell σ 17 18 19 20 200 n m (nI (i * 40 + w)) (bi b)) else Q (some (.int 0)) σ) := by
  have hL := LogCap h hn hle
  have e : (n < 200) = ¬ n = 200 := propext ⟨fun _ => by omega, fun _ => by omega⟩
  have b1 : bi true = 1 := rfl
  have b0 : bi false = 0 := rfl
  cases b
  · simp only [s_Captions_change_0, s_Captions_change_1, s_Captions_change_4, s_Captions_change_5, s_Captions_change_8, s_Captions_change_9, s_Captions_change_11, s_Captions_change_12, s_Captions_change_14, s_Captions_change_15, s_Captions_change_16, s_Captions_change_17, s_Captions_change_19, s_Captions_change_20, s_Captions_change_23, s_Captions_change_25, s_Captions_change_27, s_Captions_change_28, s_Captions_change_31, s_Captions_change_33, s_Captions_change_36, s_Captions_change_37, s_Captions_change_40, s_Captions_change_42, s_Captions_change_44, s_Captions_change_46, s_Captions_change_49, s_Captions_change_52, s_Captions_change_53, s_Captions_change_56, s_Captions_change_57, ↓reduceIte, Nat.reduceEqDiff, Nat.reduceLT, am_top, ax_f_some, ax_k_some, ax_k_none, s8_0, s8_1, s8_2, s8_3, s8_4, c2p_n, c2p_i, c2p_r, c2p_z, okvp_i, okvp_l, okvp_r, okvp_n, okvp_z, okvp_z0, okvp_z1, bi_narp, am_nar0p, am_nar1p, bi_0, bi_1, true_and, and_true, r_16_0 h, r_16_1 h, o_16 h, r_17_0 h, r_17_1 h, r_17_2 h, i_17_3 h, o_17 h, b0, Bool.false_eq_true, e40, pk_mul, nI_add, Log_latest hL, Log_tell hL, e, aTell]
    by_cases c1 : latF (ga σ 18) (ga σ 19) (ga σ 20) (nI (i * 40 + w)) m 0 n = 0
    · simp [c1]
    · by_cases c2 : n = 200
      · simp [if_neg c1, c2]
      · simp [if_neg c1, c2]
  · simp only [s_Captions_change_0, s_Captions_change_1, s_Captions_change_4, s_Captions_change_5, s_Captions_change_8, s_Captions_change_9, s_Captions_change_11, s_Captions_change_12, s_Captions_change_14, s_Captions_change_15, s_Captions_change_16, s_Captions_change_17, s_Captions_change_19, s_Captions_change_20, s_Captions_change_23, s_Captions_change_25, s_Captions_change_27, s_Captions_change_28, s_Captions_change_31, s_Captions_change_33, s_Captions_change_36, s_Captions_change_37, s_Captions_change_40, s_Captions_change_42, s_Captions_change_44, s_Captions_change_46, s_Captions_change_49, s_Captions_change_52, s_Captions_change_53, s_Captions_change_56, s_Captions_change_57, ↓reduceIte, Nat.reduceEqDiff, Nat.reduceLT, am_top, ax_f_some, ax_k_some, ax_k_none, s8_0, s8_1, s8_2, s8_3, s8_4, c2p_n, c2p_i, c2p_r, c2p_z, okvp_i, okvp_l, okvp_r, okvp_n, okvp_z, okvp_z0, okvp_z1, bi_narp, am_nar0p, am_nar1p, bi_0, bi_1, true_and, and_true, r_16_0 h, r_16_1 h, o_16 h, r_17_0 h, r_17_1 h, r_17_2 h, i_17_3 h, o_17 h, b1, Bool.true_eq_false, e40, pk_mul, nI_add, Log_latest hL, Log_tell hL, e, aTell]
    by_cases c1 : latF (ga σ 18) (ga σ 19) (ga σ 20) (nI (i * 40 + w)) m 0 n = 1
    · simp [c1]
    · by_cases c2 : n = 200
      · simp [if_neg c1, c2]
      · simp [if_neg c1, c2]
theorem C_fill_loop (h : SH σ) (v : Int64) : ∀ j k, k + j = 40 → ax k_Arrays_fill 6 [some (.ref 21), some (.long v), none, some (.int (nI k)), some (.int (nI 40))] [] (aRec σ (filR (gL σ 21) v k)) Q = Q none (aRec σ (filR (gL σ 21) v 40)) := by
  intro j
  induction j with
  | zero =>
    intro k hk
    have hk : k = 40 := by omega
    subst hk
    have hc : ¬ nI 40 < nI 40 := Int32.lt_irrefl
    rw [s_Arrays_fill_6]
    simp only [s_Arrays_fill_0, s_Arrays_fill_1, s_Arrays_fill_2, s_Arrays_fill_3, s_Arrays_fill_4, s_Arrays_fill_7, s_Arrays_fill_9, s_Arrays_fill_12, s_Arrays_fill_13, s_Arrays_fill_14, s_Arrays_fill_15, s_Arrays_fill_16, s_Arrays_fill_19, s_Arrays_fill_22, ↓reduceIte, Nat.reduceEqDiff, Nat.reduceLT, am_top, ax_f_some, ax_k_some, ax_k_none, s8_0, s8_1, s8_2, s8_3, s8_4, c2p_n, c2p_i, c2p_r, c2p_z, okvp_i, okvp_l, okvp_r, okvp_n, okvp_z, okvp_z0, okvp_z1, bi_narp, am_nar0p, am_nar1p, bi_0, bi_1, true_and, and_true, hc]
  | succ j ih =>
    intro k hk
    have ih := ih (k + 1) (by omega)
    have hs := SH_aRec h (filR (gL σ 21) v k)
    have g1 : gL (aRec σ (filR (gL σ 21) v k)) 21 = filR (gL σ 21) v k := gL_set_eq
    have hc : nI k < nI 40 := nI_lt (by omega) (by omega)
    have hix := ix_nI (show k < 40 by omega) (by omega)
    have hcl : (nI k).toNatClampNeg = k := nI_clamp (by omega)
    rw [s_Arrays_fill_6]
    simp only [s_Arrays_fill_0, s_Arrays_fill_1, s_Arrays_fill_2, s_Arrays_fill_3, s_Arrays_fill_4, s_Arrays_fill_7, s_Arrays_fill_9, s_Arrays_fill_12, s_Arrays_fill_13, s_Arrays_fill_14, s_Arrays_fill_15, s_Arrays_fill_16, s_Arrays_fill_19, s_Arrays_fill_22, ↓reduceIte, Nat.reduceEqDiff, Nat.reduceLT, am_top, ax_f_some, ax_k_some, ax_k_none, s8_0, s8_1, s8_2, s8_3, s8_4, c2p_n, c2p_i, c2p_r, c2p_z, okvp_i, okvp_l, okvp_r, okvp_n, okvp_z, okvp_z0, okvp_z1, bi_narp, am_nar0p, am_nar1p, bi_0, bi_1, true_and, and_true, l_21 hs, n_21 hs, g1, hc, hix, hcl, nI_1, set_set]
    exact ih
theorem C_fill (h : SH σ) (v : Int64) : ax k_Arrays_fill 0 [some (.ref 21), some (.long v), none, none, none] [] σ Q = Q none (aRec σ (filR (gL σ 21) v 40)) := by
  have hl := C_fill_loop (Q := Q) h v 40 0 (by omega)
  have e : aRec σ (gL σ 21) = σ := set_selfg (lv_get (l_21 h))
  simp only [filR, nI_0] at hl
  rw [e] at hl
  simp only [s_Arrays_fill_0, s_Arrays_fill_1, s_Arrays_fill_2, s_Arrays_fill_3, s_Arrays_fill_4, s_Arrays_fill_7, s_Arrays_fill_9, s_Arrays_fill_12, s_Arrays_fill_13, s_Arrays_fill_14, s_Arrays_fill_15, s_Arrays_fill_16, s_Arrays_fill_19, s_Arrays_fill_22, ↓reduceIte, Nat.reduceEqDiff, Nat.reduceLT, am_top, ax_f_some, ax_k_some, ax_k_none, s8_0, s8_1, s8_2, s8_3, s8_4, c2p_n, c2p_i, c2p_r, c2p_z, okvp_i, okvp_l, okvp_r, okvp_n, okvp_z, okvp_z0, okvp_z1, bi_narp, am_nar0p, am_nar1p, bi_0, bi_1, true_and, and_true, l_21 h, n_21 h, ofNat_nI]
  exact hl
theorem C_recall_loop (h : SH σ) (hn : gi σ 17 3 3 = nI n) (hle : n ≤ 200) (hT : ∀ i, i < n → fp i < 40 ∧ fw i < 40 ∧ ga σ 19 i = nI (fp i * 40 + fw i)) (m : Int32) (old : Bool) (f : Nat → Int64) {tl : Nat} (htl : tl ≤ n) : ∀ j k, k + j = tl → ∀ z1 z2 z3 : Option Value, ax k_Captions_recall 20 [some (.ref 16), some (.int m), some (.int (bi old)), some (.int (nI tl)), some (.int (nI k)), z1, z2, z3, none] [] (aRec σ (capR f fp fw (ga σ 20) old k)) Q = Q none (aRec σ (capR f fp fw (ga σ 20) old tl)) := by
  intro j
  induction j with
  | zero =>
    intro k hk z1 z2 z3
    have hk : k = tl := by omega
    subst hk
    have hc : ¬ nI k < nI k := Int32.lt_irrefl
    rw [s_Captions_recall_20]
    simp only [s_Captions_recall_0, s_Captions_recall_1, s_Captions_recall_4, s_Captions_recall_5, s_Captions_recall_8, s_Captions_recall_9, s_Captions_recall_12, s_Captions_recall_13, s_Captions_recall_16, s_Captions_recall_17, s_Captions_recall_18, s_Captions_recall_22, s_Captions_recall_23, s_Captions_recall_26, s_Captions_recall_27, s_Captions_recall_30, s_Captions_recall_32, s_Captions_recall_35, s_Captions_recall_37, s_Captions_recall_39, s_Captions_recall_41, s_Captions_recall_42, s_Captions_recall_44, s_Captions_recall_45, s_Captions_recall_47, s_Captions_recall_49, s_Captions_recall_50, s_Captions_recall_51, s_Captions_recall_53, s_Captions_recall_55, s_Captions_recall_58, s_Captions_recall_60, s_Captions_recall_61, s_Captions_recall_64, s_Captions_recall_65, s_Captions_recall_68, s_Captions_recall_71, s_Captions_recall_72, s_Captions_recall_75, s_Captions_recall_77, s_Captions_recall_80, s_Captions_recall_81, s_Captions_recall_84, s_Captions_recall_85, s_Captions_recall_88, s_Captions_recall_90, s_Captions_recall_91, s_Captions_recall_92, s_Captions_recall_94, s_Captions_recall_95, s_Captions_recall_96, s_Captions_recall_99, s_Captions_recall_100, s_Captions_recall_103, s_Captions_recall_104, s_Captions_recall_107, s_Captions_recall_109, s_Captions_recall_110, s_Captions_recall_111, s_Captions_recall_113, s_Captions_recall_116, s_Captions_recall_117, s_Captions_recall_118, s_Captions_recall_119, s_Captions_recall_122, s_Captions_recall_125, ↓reduceIte, Nat.reduceEqDiff, Nat.reduceLT, am_top, ax_f_some, ax_k_some, ax_k_none, s8_0, s8_1, s8_2, s8_3, s8_4, c2p_n, c2p_i, c2p_r, c2p_z, okvp_i, okvp_l, okvp_r, okvp_n, okvp_z, okvp_z0, okvp_z1, bi_narp, am_nar0p, am_nar1p, bi_0, bi_1, true_and, and_true, hc]
  | succ j ih =>
    intro k hk z1 z2 z3
    obtain ⟨t1, t2, t3⟩ := hT k (by omega)
    have hs := SH_aRec h (capR f fp fw (ga σ 20) old k)
    have g5 : gi (aRec σ (capR f fp fw (ga σ 20) old k)) 17 3 3 = nI n := by rw [gi_set_ne (by decide)]; exact hn
    have g4 : gL (aRec σ (capR f fp fw (ga σ 20) old k)) 21 = capR f fp fw (ga σ 20) old k := gL_set_eq
    have hL := LogCap hs g5 hle
    have g7 : ga (aRec σ (capR f fp fw (ga σ 20) old k)) 19 = ga σ 19 := ga_set_ne (by decide)
    have g8 : ga (aRec σ (capR f fp fw (ga σ 20) old k)) 20 = ga σ 20 := ga_set_ne (by decide)
    rw [g7, g8] at hL
    have hc : nI k < nI tl := nI_lt (by omega) (by omega)
    have l1 := fun (Q : Option Value → am_H → Prop) => Log_thingAt (Q := Q) hL (show k < n by omega)
    have l2 := fun (Q : Option Value → am_H → Prop) => Log_valueAt (Q := Q) hL (show k < n by omega)
    have hp0 : ¬ nI (fp k) < 0 := nI_pos (by omega)
    have hp4 : nI (fp k) < nI 40 := nI_lt t1 (by omega)
    have hix := ix_nI t1 (by omega)
    have hcl : (nI (fp k)).toNatClampNeg = fp k := nI_clamp (by omega)
    have n40 : ¬ nI 40 = 0 := by decide
    rw [t3] at l1
    have ih := ih (k + 1) (by omega) (some (.int (nI (fp k * 40 + fw k)))) (some (.int (nI (fp k)))) (some (.long ((1 : Int64) <<< ((nI (fw k)).toInt64 &&& 63))))
    rw [s_Captions_recall_20]
    simp only [s_Captions_recall_0, s_Captions_recall_1, s_Captions_recall_4, s_Captions_recall_5, s_Captions_recall_8, s_Captions_recall_9, s_Captions_recall_12, s_Captions_recall_13, s_Captions_recall_16, s_Captions_recall_17, s_Captions_recall_18, s_Captions_recall_22, s_Captions_recall_23, s_Captions_recall_26, s_Captions_recall_27, s_Captions_recall_30, s_Captions_recall_32, s_Captions_recall_35, s_Captions_recall_37, s_Captions_recall_39, s_Captions_recall_41, s_Captions_recall_42, s_Captions_recall_44, s_Captions_recall_45, s_Captions_recall_47, s_Captions_recall_49, s_Captions_recall_50, s_Captions_recall_51, s_Captions_recall_53, s_Captions_recall_55, s_Captions_recall_58, s_Captions_recall_60, s_Captions_recall_61, s_Captions_recall_64, s_Captions_recall_65, s_Captions_recall_68, s_Captions_recall_71, s_Captions_recall_72, s_Captions_recall_75, s_Captions_recall_77, s_Captions_recall_80, s_Captions_recall_81, s_Captions_recall_84, s_Captions_recall_85, s_Captions_recall_88, s_Captions_recall_90, s_Captions_recall_91, s_Captions_recall_92, s_Captions_recall_94, s_Captions_recall_95, s_Captions_recall_96, s_Captions_recall_99, s_Captions_recall_100, s_Captions_recall_103, s_Captions_recall_104, s_Captions_recall_107, s_Captions_recall_109, s_Captions_recall_110, s_Captions_recall_111, s_Captions_recall_113, s_Captions_recall_116, s_Captions_recall_117, s_Captions_recall_118, s_Captions_recall_119, s_Captions_recall_122, s_Captions_recall_125, ↓reduceIte, Nat.reduceEqDiff, Nat.reduceLT, am_top, ax_f_some, ax_k_some, ax_k_none, s8_0, s8_1, s8_2, s8_3, s8_4, c2p_n, c2p_i, c2p_r, c2p_z, okvp_i, okvp_l, okvp_r, okvp_n, okvp_z, okvp_z0, okvp_z1, bi_narp, am_nar0p, am_nar1p, bi_0, bi_1, true_and, and_true, r_16_0 hs, r_16_1 hs, o_16 hs, l_21 hs, n_21 hs, r_17_0 hs, r_17_1 hs, r_17_2 hs, i_17_3 hs, o_17 hs, l1, l2, g4, hc, e40, n40, pair_d t1 t2, pair_m t1 t2, hp0, hp4, hix, hcl, nI_1, set_set, ofNat_nI, not_false_eq_true]
    simp only [capR] at ih
    by_cases c1 : ga σ 20 k = 1
    · rw [if_pos c1] at ih ⊢
      exact ih
    · rw [if_neg c1] at ih ⊢
      cases old
      · simp only [Bool.false_eq_true, ↓reduceIte] at ih ⊢
        exact ih
      · simp only [Bool.true_eq_false, ↓reduceIte] at ih ⊢
        exact ih
theorem C_recall (h : SH σ) (hn : gi σ 17 3 3 = nI n) (hle : n ≤ 200) (hT : ∀ i, i < n → fp i < 40 ∧ fw i < 40 ∧ ga σ 19 i = nI (fp i * 40 + fw i)) (m : Int32) (old : Bool) : ax k_Captions_recall 0 [some (.ref 16), some (.int m), some (.int (bi old)), none, none, none, none, none, none] [] σ Q = Q none (aRec σ (capF σ n fp fw m old)) := by
  have tl := tolR_le (ga σ 18) m n 0
  have h2 := C_recall_loop (Q := Q) h hn hle hT m old (filR (gL σ 21) 0 40) (tl := tolR (ga σ 18) m n 0) (by omega) (tolR (ga σ 18) m n 0) 0 (by omega) none none none
  rw [nI_0] at h2
  simp only [capR] at h2
  have hs := SH_aRec h (filR (gL σ 21) 0 40)
  have g5 : gi (aRec σ (filR (gL σ 21) 0 40)) 17 3 3 = nI n := by rw [gi_set_ne (by decide)]; exact hn
  have hL := LogCap hs g5 hle
  have g6 : ga (aRec σ (filR (gL σ 21) 0 40)) 18 = ga σ 18 := ga_set_ne (by decide)
  rw [g6] at hL
  have l0 := fun (Q : Option Value → am_H → Prop) => Log_toldBy (Q := Q) hL m
  simp only [s_Captions_recall_0, s_Captions_recall_1, s_Captions_recall_4, s_Captions_recall_5, s_Captions_recall_8, s_Captions_recall_9, s_Captions_recall_12, s_Captions_recall_13, s_Captions_recall_16, s_Captions_recall_17, s_Captions_recall_18, s_Captions_recall_22, s_Captions_recall_23, s_Captions_recall_26, s_Captions_recall_27, s_Captions_recall_30, s_Captions_recall_32, s_Captions_recall_35, s_Captions_recall_37, s_Captions_recall_39, s_Captions_recall_41, s_Captions_recall_42, s_Captions_recall_44, s_Captions_recall_45, s_Captions_recall_47, s_Captions_recall_49, s_Captions_recall_50, s_Captions_recall_51, s_Captions_recall_53, s_Captions_recall_55, s_Captions_recall_58, s_Captions_recall_60, s_Captions_recall_61, s_Captions_recall_64, s_Captions_recall_65, s_Captions_recall_68, s_Captions_recall_71, s_Captions_recall_72, s_Captions_recall_75, s_Captions_recall_77, s_Captions_recall_80, s_Captions_recall_81, s_Captions_recall_84, s_Captions_recall_85, s_Captions_recall_88, s_Captions_recall_90, s_Captions_recall_91, s_Captions_recall_92, s_Captions_recall_94, s_Captions_recall_95, s_Captions_recall_96, s_Captions_recall_99, s_Captions_recall_100, s_Captions_recall_103, s_Captions_recall_104, s_Captions_recall_107, s_Captions_recall_109, s_Captions_recall_110, s_Captions_recall_111, s_Captions_recall_113, s_Captions_recall_116, s_Captions_recall_117, s_Captions_recall_118, s_Captions_recall_119, s_Captions_recall_122, s_Captions_recall_125, ↓reduceIte, Nat.reduceEqDiff, Nat.reduceLT, am_top, ax_f_some, ax_k_some, ax_k_none, s8_0, s8_1, s8_2, s8_3, s8_4, c2p_n, c2p_i, c2p_r, c2p_z, okvp_i, okvp_l, okvp_r, okvp_n, okvp_z, okvp_z0, okvp_z1, bi_narp, am_nar0p, am_nar1p, bi_0, bi_1, true_and, and_true, r_16_0 h, r_16_1 h, o_16 h, l_21 h, n_21 h, r_16_0 hs, r_16_1 hs, o_16 hs, r_17_0 hs, r_17_1 hs, r_17_2 hs, i_17_3 hs, o_17 hs, C_fill h, l0]
  exact h2
theorem C_with_loop (h : SH σ) (w : Int64) (m o : Int32) : ∀ j k, k + j = 40 → ax k_Captions_picturesWithOneOf 13 [some (.ref 16), some (.long w), none, some (.int m), some (.int o), some (.long (pwR (gL σ 21) w k)), none, some (.int (nI k))] [] σ Q = Q (some (.long (pwR (gL σ 21) w 40))) σ := by
  intro j
  induction j with
  | zero =>
    intro k hk
    have hk : k = 40 := by omega
    subst hk
    have hc : ¬ nI 40 < nI 40 := Int32.lt_irrefl
    rw [s_Captions_picturesWithOneOf_13]
    simp only [s_Captions_picturesWithOneOf_0, s_Captions_picturesWithOneOf_1, s_Captions_picturesWithOneOf_2, s_Captions_picturesWithOneOf_4, s_Captions_picturesWithOneOf_7, s_Captions_picturesWithOneOf_8, s_Captions_picturesWithOneOf_10, s_Captions_picturesWithOneOf_11, s_Captions_picturesWithOneOf_15, s_Captions_picturesWithOneOf_16, s_Captions_picturesWithOneOf_19, s_Captions_picturesWithOneOf_20, s_Captions_picturesWithOneOf_23, s_Captions_picturesWithOneOf_24, s_Captions_picturesWithOneOf_27, s_Captions_picturesWithOneOf_29, s_Captions_picturesWithOneOf_30, s_Captions_picturesWithOneOf_31, s_Captions_picturesWithOneOf_32, s_Captions_picturesWithOneOf_33, s_Captions_picturesWithOneOf_34, s_Captions_picturesWithOneOf_37, s_Captions_picturesWithOneOf_39, s_Captions_picturesWithOneOf_40, s_Captions_picturesWithOneOf_42, s_Captions_picturesWithOneOf_43, s_Captions_picturesWithOneOf_44, s_Captions_picturesWithOneOf_46, s_Captions_picturesWithOneOf_49, s_Captions_picturesWithOneOf_52, s_Captions_picturesWithOneOf_54, ↓reduceIte, Nat.reduceEqDiff, Nat.reduceLT, am_top, ax_f_some, ax_k_some, ax_k_none, s8_0, s8_1, s8_2, s8_3, s8_4, c2p_n, c2p_i, c2p_r, c2p_z, okvp_i, okvp_l, okvp_r, okvp_n, okvp_z, okvp_z0, okvp_z1, bi_narp, am_nar0p, am_nar1p, bi_0, bi_1, true_and, and_true, r_16_0 h, r_16_1 h, o_16 h, l_21 h, n_21 h, ofNat_nI, hc]
  | succ j ih =>
    intro k hk
    have ih := ih (k + 1) (by omega)
    have hc : nI k < nI 40 := nI_lt (by omega) (by omega)
    have hix := ix_nI (show k < 40 by omega) (by omega)
    have hcl : (nI k).toNatClampNeg = k := nI_clamp (by omega)
    rw [s_Captions_picturesWithOneOf_13]
    simp only [s_Captions_picturesWithOneOf_0, s_Captions_picturesWithOneOf_1, s_Captions_picturesWithOneOf_2, s_Captions_picturesWithOneOf_4, s_Captions_picturesWithOneOf_7, s_Captions_picturesWithOneOf_8, s_Captions_picturesWithOneOf_10, s_Captions_picturesWithOneOf_11, s_Captions_picturesWithOneOf_15, s_Captions_picturesWithOneOf_16, s_Captions_picturesWithOneOf_19, s_Captions_picturesWithOneOf_20, s_Captions_picturesWithOneOf_23, s_Captions_picturesWithOneOf_24, s_Captions_picturesWithOneOf_27, s_Captions_picturesWithOneOf_29, s_Captions_picturesWithOneOf_30, s_Captions_picturesWithOneOf_31, s_Captions_picturesWithOneOf_32, s_Captions_picturesWithOneOf_33, s_Captions_picturesWithOneOf_34, s_Captions_picturesWithOneOf_37, s_Captions_picturesWithOneOf_39, s_Captions_picturesWithOneOf_40, s_Captions_picturesWithOneOf_42, s_Captions_picturesWithOneOf_43, s_Captions_picturesWithOneOf_44, s_Captions_picturesWithOneOf_46, s_Captions_picturesWithOneOf_49, s_Captions_picturesWithOneOf_52, s_Captions_picturesWithOneOf_54, ↓reduceIte, Nat.reduceEqDiff, Nat.reduceLT, am_top, ax_f_some, ax_k_some, ax_k_none, s8_0, s8_1, s8_2, s8_3, s8_4, c2p_n, c2p_i, c2p_r, c2p_z, okvp_i, okvp_l, okvp_r, okvp_n, okvp_z, okvp_z0, okvp_z1, bi_narp, am_nar0p, am_nar1p, bi_0, bi_1, true_and, and_true, r_16_0 h, r_16_1 h, o_16 h, l_21 h, n_21 h, ofNat_nI, hc, hix, hcl, nI_1, lgc]
    rw [← ih]
    by_cases c : gL σ 21 k &&& w = 0
    · simp only [pwR, if_pos c]
    · simp only [pwR, if_neg c]
theorem C_with (h : SH σ) (hn : gi σ 17 3 3 = nI n) (hle : n ≤ 200) (hT : ∀ i, i < n → fp i < 40 ∧ fw i < 40 ∧ ga σ 19 i = nI (fp i * 40 + fw i)) (w : Int64) (m : Int32) (old : Bool) : ax k_Captions_picturesWithOneOf 0 [some (.ref 16), some (.long w), none, some (.int m), some (.int (bi old)), none, none, none] [] σ Q = Q (some (.long (pwR (capF σ n fp fw m old) w 40))) (aRec σ (capF σ n fp fw m old)) := by
  have hs := SH_aRec h (capF σ n fp fw m old)
  have g4 : gL (aRec σ (capF σ n fp fw m old)) 21 = capF σ n fp fw m old := gL_set_eq
  have l1 := C_with_loop (Q := Q) hs w m (bi old) 40 0 (by omega)
  rw [g4] at l1
  simp only [pwR, nI_0] at l1
  simp only [s_Captions_picturesWithOneOf_0, s_Captions_picturesWithOneOf_1, s_Captions_picturesWithOneOf_2, s_Captions_picturesWithOneOf_4, s_Captions_picturesWithOneOf_7, s_Captions_picturesWithOneOf_8, s_Captions_picturesWithOneOf_10, s_Captions_picturesWithOneOf_11, s_Captions_picturesWithOneOf_15, s_Captions_picturesWithOneOf_16, s_Captions_picturesWithOneOf_19, s_Captions_picturesWithOneOf_20, s_Captions_picturesWithOneOf_23, s_Captions_picturesWithOneOf_24, s_Captions_picturesWithOneOf_27, s_Captions_picturesWithOneOf_29, s_Captions_picturesWithOneOf_30, s_Captions_picturesWithOneOf_31, s_Captions_picturesWithOneOf_32, s_Captions_picturesWithOneOf_33, s_Captions_picturesWithOneOf_34, s_Captions_picturesWithOneOf_37, s_Captions_picturesWithOneOf_39, s_Captions_picturesWithOneOf_40, s_Captions_picturesWithOneOf_42, s_Captions_picturesWithOneOf_43, s_Captions_picturesWithOneOf_44, s_Captions_picturesWithOneOf_46, s_Captions_picturesWithOneOf_49, s_Captions_picturesWithOneOf_52, s_Captions_picturesWithOneOf_54, ↓reduceIte, Nat.reduceEqDiff, Nat.reduceLT, am_top, ax_f_some, ax_k_some, ax_k_none, s8_0, s8_1, s8_2, s8_3, s8_4, c2p_n, c2p_i, c2p_r, c2p_z, okvp_i, okvp_l, okvp_r, okvp_n, okvp_z, okvp_z0, okvp_z1, bi_narp, am_nar0p, am_nar1p, bi_0, bi_1, true_and, and_true, r_16_0 h, r_16_1 h, o_16 h, C_recall h hn hle hT]
  exact l1
end A8
