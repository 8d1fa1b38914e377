/-! THE CLASS, 14: sales and printings -/
def slL (v : Nat → Nat → Int32) (s : Nat) : List Value := [.int (v s 0), .int (v s 1), .int (v s 2), .int (v s 3), .int (v s 4), .int (v s 5), .int (v s 6), .int (v s 7), .int (v s 8), .int (v s 9), .int (v s 10), .int (v s 11), .int (v s 12)]
/-- the sales: the s-th lies at A s, and says v s -/
def SalAt (σ : am_H) (n : Nat) (A : Nat → Nat) (v : Nat → Nat → Int32) : Prop := ∀ s, s < n → gq σ 37 s = some (A s) ∧ am_get σ (A s) = some (am_ob 5 (slL v s)) ∧ 83 ≤ A s ∧ A s < am_top
theorem fld_get {σ : am_H} {a c k : Nat} {l : List Value} (h : am_get σ a = some (am_ob c l)) : am_fld σ a c k = l[k]? := by
  unfold am_fld
  rw [h]
  simp [am_ob]
theorem is_get {σ : am_H} {a c : Nat} {l : List Value} (h : am_get σ a = some (am_ob c l)) : am_is σ a c = True := eq_true ⟨l, h⟩
def shutB (v : Nat → Nat → Int32) (pics : Int64) (land m : Int32) (s : Nat) : Bool := (((decide (v s 11 = 0) && !decide (v s 5 = -1)) && !decide (v s 5 < m)) && decide (v s 1 = land)) && hldB pics (v s 0)
def forB (v : Nat → Nat → Int32) (pics : Int64) (land use size : Int32) (s : Nat) : Bool := ((((decide (v s 11 = 0) && decide (v s 12 = -1)) && decide (v s 1 = land)) && decide (v s 2 = use)) && !decide (v s 3 < size)) && hldB pics (v s 0)
def oI (o : Option Nat) : Int32 := o.elim (-1) nI
def gaiF (v : Nat → Nat → Int32) (x : Int32) : Nat → Int64
  | 0 => 0
  | s + 1 => if v s 11 = 0 then gaiF v x s + (if v s 7 = x then (v s 8).toInt64 else 0) + (if v s 9 = x then (v s 10).toInt64 else 0) else gaiF v x s
def gagF (v : Nat → Nat → Int32) : Nat → Int64
  | 0 => 0
  | s + 1 => if v s 11 = 0 then gagF v s + (v s 6 - v s 8 - v s 10).toInt64 else gagF v s
section LD
variable {σ : am_H} {Q : Option Value → am_H → Prop} {n : Nat} {A : Nat → Nat} {v : Nat → Nat → Int32}
theorem Ld_saleAt (h : SH σ) (hn : gi σ 36 2 2 = nI n) (hle : n ≤ 60) (hS : SalAt σ n A v) {s : Nat} (hs : s < n) : ax k_Ledger_saleAt 0 [some (.ref 36), some (.int (nI s))] [] σ Q = Q (some (.ref (A s))) σ := by
  obtain ⟨e1, e2, e3⟩ := hS s hs
  have hp : ¬ nI s < 0 := nI_pos (by omega)
  have hc : nI s < nI n := nI_lt hs (by omega)
  have hix := ix_nI (show s < 60 by omega) (by omega)
  have hcl : (nI s).toNatClampNeg = s := nI_clamp (by omega)
  simp only [s_Ledger_saleAt_0, s_Ledger_saleAt_1, s_Ledger_saleAt_4, s_Ledger_saleAt_5, s_Ledger_saleAt_6, s_Ledger_saleAt_9, s_Ledger_saleAt_12, s_Ledger_saleAt_13, s_Ledger_saleAt_16, s_Ledger_saleAt_17, s_Ledger_saleAt_18, s_Ledger_saleAt_21, s_Ledger_saleAt_22, s_Ledger_saleAt_22n, ↓reduceIte, Nat.reduceEqDiff, Nat.reduceLT, am_top, ax_f_some, ax_k_some, ax_k_none, s8_0, s8_1, s8_2, s8_3, s8_4, c2p_n, c2p_i, c2p_r, c2p_z, okvp_i, okvp_l, okvp_r, okvp_n, okvp_z, okvp_z0, okvp_z1, bi_narp, am_nar0p, am_nar1p, bi_0, bi_1, true_and, and_true, r_36_0 h, r_36_1 h, i_36_2 h, i_36_3 h, i_36_4 h, o_36 h, q_37 h, hn, hp, hc, hix, hcl, e1, va_rf]
theorem Ld_saleAt_no (h : SH σ) (hn : gi σ 36 2 2 = nI n) {x : Int32} (hx : ltB x (nI n) = false) : ax k_Ledger_saleAt 0 [some (.ref 36), some (.int x)] [] σ Q = Q (some .null) σ := by
  simp only [s_Ledger_saleAt_0, s_Ledger_saleAt_1, s_Ledger_saleAt_4, s_Ledger_saleAt_5, s_Ledger_saleAt_6, s_Ledger_saleAt_9, s_Ledger_saleAt_12, s_Ledger_saleAt_13, s_Ledger_saleAt_16, s_Ledger_saleAt_17, s_Ledger_saleAt_18, s_Ledger_saleAt_21, s_Ledger_saleAt_22, s_Ledger_saleAt_22n, ↓reduceIte, Nat.reduceEqDiff, Nat.reduceLT, am_top, ax_f_some, ax_k_some, ax_k_none, s8_0, s8_1, s8_2, s8_3, s8_4, c2p_n, c2p_i, c2p_r, c2p_z, okvp_i, okvp_l, okvp_r, okvp_n, okvp_z, okvp_z0, okvp_z1, bi_narp, am_nar0p, am_nar1p, bi_0, bi_1, true_and, and_true, r_36_0 h, r_36_1 h, i_36_2 h, i_36_3 h, i_36_4 h, o_36 h, q_37 h, hn]
  by_cases c1 : x < 0
  · simp [c1]
  · have c2 : ¬ x < nI n := by
      intro z
      simp [ltB, c1, z] at hx
    simp [c1, c2]
theorem Ld_shut_loop (h : SH σ) (hn : gi σ 36 2 2 = nI n) (hle : n ≤ 60) (hS : SalAt σ n A v) (pics : Int64) (land m : Int32) : ∀ j k, k + j = n → ∀ z : Option Value, ax k_Ledger_firstShutting 3 [some (.ref 36), some (.long pics), none, some (.int land), some (.int m), some (.int (nI k)), z] [] σ Q = Q (some (.int (oI (fstR (shutB v pics land m) k j)))) σ := by
  intro j
  induction j with
  | zero =>
    intro k hk z
    have hk : k = n := by omega
    subst hk
    have hc : ¬ nI k < nI k := Int32.lt_irrefl
    rw [s_Ledger_firstShutting_3]
    simp only [s_Ledger_firstShutting_0, s_Ledger_firstShutting_1, s_Ledger_firstShutting_5, s_Ledger_firstShutting_6, s_Ledger_firstShutting_9, s_Ledger_firstShutting_12, s_Ledger_firstShutting_13, s_Ledger_firstShutting_15, s_Ledger_firstShutting_18, s_Ledger_firstShutting_18n, s_Ledger_firstShutting_20, s_Ledger_firstShutting_20n, s_Ledger_firstShutting_22n, s_Ledger_firstShutting_22, s_Ledger_firstShutting_25, s_Ledger_firstShutting_25n, s_Ledger_firstShutting_27, s_Ledger_firstShutting_30, s_Ledger_firstShutting_33, s_Ledger_firstShutting_33n, s_Ledger_firstShutting_35, s_Ledger_firstShutting_38, s_Ledger_firstShutting_39, s_Ledger_firstShutting_42, s_Ledger_firstShutting_42n, s_Ledger_firstShutting_44, s_Ledger_firstShutting_47, s_Ledger_firstShutting_49, s_Ledger_firstShutting_52, s_Ledger_firstShutting_52n, s_Ledger_firstShutting_54, s_Ledger_firstShutting_57, s_Ledger_firstShutting_58, s_Ledger_firstShutting_61, s_Ledger_firstShutting_62, s_Ledger_firstShutting_62n, s_Ledger_firstShutting_64, s_Ledger_firstShutting_67, s_Ledger_firstShutting_70, s_Ledger_firstShutting_73, s_Ledger_firstShutting_75, s_Ledger_firstShutting_76, s_Ledger_firstShutting_79, s_Ledger_firstShutting_82, s_Ledger_firstShutting_83, ↓reduceIte, Nat.reduceEqDiff, Nat.reduceLT, am_top, ax_f_some, ax_k_some, ax_k_none, s8_0, s8_1, s8_2, s8_3, s8_4, c2p_n, c2p_i, c2p_r, c2p_z, okvp_i, okvp_l, okvp_r, okvp_n, okvp_z, okvp_z0, okvp_z1, bi_narp, am_nar0p, am_nar1p, bi_0, bi_1, true_and, and_true, r_36_0 h, r_36_1 h, i_36_2 h, i_36_3 h, i_36_4 h, o_36 h, hn, hc, fstR, oI, Option.elim_none]
  | succ j ih =>
    intro k hk z
    have ih := ih (k + 1) (by omega) (some (.ref (A k)))
    have hc : nI k < nI n := nI_lt (by omega) (by omega)
    obtain ⟨e1, e2, e3⟩ := hS k (by omega)
    have f0 : am_fld σ (A k) 5 0 = some (.int (v k 0)) := fld_get e2
    have f1 : am_fld σ (A k) 5 1 = some (.int (v k 1)) := fld_get e2
    have f2 : am_fld σ (A k) 5 2 = some (.int (v k 2)) := fld_get e2
    have f3 : am_fld σ (A k) 5 3 = some (.int (v k 3)) := fld_get e2
    have f4 : am_fld σ (A k) 5 4 = some (.int (v k 4)) := fld_get e2
    have f5 : am_fld σ (A k) 5 5 = some (.int (v k 5)) := fld_get e2
    have f6 : am_fld σ (A k) 5 6 = some (.int (v k 6)) := fld_get e2
    have f7 : am_fld σ (A k) 5 7 = some (.int (v k 7)) := fld_get e2
    have f8 : am_fld σ (A k) 5 8 = some (.int (v k 8)) := fld_get e2
    have f9 : am_fld σ (A k) 5 9 = some (.int (v k 9)) := fld_get e2
    have f10 : am_fld σ (A k) 5 10 = some (.int (v k 10)) := fld_get e2
    have f11 : am_fld σ (A k) 5 11 = some (.int (v k 11)) := fld_get e2
    have f12 : am_fld σ (A k) 5 12 = some (.int (v k 12)) := fld_get e2
    rw [s_Ledger_firstShutting_3]
    simp only [s_Ledger_firstShutting_0, s_Ledger_firstShutting_1, s_Ledger_firstShutting_5, s_Ledger_firstShutting_6, s_Ledger_firstShutting_9, s_Ledger_firstShutting_12, s_Ledger_firstShutting_13, s_Ledger_firstShutting_15, s_Ledger_firstShutting_18, s_Ledger_firstShutting_18n, s_Ledger_firstShutting_20, s_Ledger_firstShutting_20n, s_Ledger_firstShutting_22n, s_Ledger_firstShutting_22, s_Ledger_firstShutting_25, s_Ledger_firstShutting_25n, s_Ledger_firstShutting_27, s_Ledger_firstShutting_30, s_Ledger_firstShutting_33, s_Ledger_firstShutting_33n, s_Ledger_firstShutting_35, s_Ledger_firstShutting_38, s_Ledger_firstShutting_39, s_Ledger_firstShutting_42, s_Ledger_firstShutting_42n, s_Ledger_firstShutting_44, s_Ledger_firstShutting_47, s_Ledger_firstShutting_49, s_Ledger_firstShutting_52, s_Ledger_firstShutting_52n, s_Ledger_firstShutting_54, s_Ledger_firstShutting_57, s_Ledger_firstShutting_58, s_Ledger_firstShutting_61, s_Ledger_firstShutting_62, s_Ledger_firstShutting_62n, s_Ledger_firstShutting_64, s_Ledger_firstShutting_67, s_Ledger_firstShutting_70, s_Ledger_firstShutting_73, s_Ledger_firstShutting_75, s_Ledger_firstShutting_76, s_Ledger_firstShutting_79, s_Ledger_firstShutting_82, s_Ledger_firstShutting_83, ↓reduceIte, Nat.reduceEqDiff, Nat.reduceLT, am_top, ax_f_some, ax_k_some, ax_k_none, s8_0, s8_1, s8_2, s8_3, s8_4, c2p_n, c2p_i, c2p_r, c2p_z, okvp_i, okvp_l, okvp_r, okvp_n, okvp_z, okvp_z0, okvp_z1, bi_narp, am_nar0p, am_nar1p, bi_0, bi_1, true_and, and_true, r_36_0 h, r_36_1 h, i_36_2 h, i_36_3 h, i_36_4 h, o_36 h, hn, hc, Ld_saleAt h hn hle hS (show k < n by omega), f0, f1, f2, f3, f4, f5, f6, f7, f8, f9, f10, f11, f12, A_holds, nI_1, ih]
    by_cases a1 : v k 11 = 0
    · by_cases a2 : v k 5 = -1
      · simp [fstR, shutB, a1, a2]
      · by_cases a3 : v k 5 < m
        · simp [fstR, shutB, a1, a2, a3]
        · by_cases a4 : v k 1 = land
          · cases a5 : hldB pics (v k 0) <;> simp [fstR, shutB, a1, a2, a3, a4, a5, oI]
          · simp [fstR, shutB, a1, a2, a3, a4]
    · simp [fstR, shutB, a1]
theorem Ld_shut (h : SH σ) (hn : gi σ 36 2 2 = nI n) (hle : n ≤ 60) (hS : SalAt σ n A v) (pics : Int64) (land m : Int32) : ax k_Ledger_firstShutting 0 [some (.ref 36), some (.long pics), none, some (.int land), some (.int m), none, none] [] σ Q = Q (some (.int (oI (fstR (shutB v pics land m) 0 n)))) σ := by
  have hl := Ld_shut_loop (Q := Q) h hn hle hS pics land m n 0 (by omega) none
  rw [nI_0] at hl
  simp only [s_Ledger_firstShutting_0, s_Ledger_firstShutting_1, s_Ledger_firstShutting_5, s_Ledger_firstShutting_6, s_Ledger_firstShutting_9, s_Ledger_firstShutting_12, s_Ledger_firstShutting_13, s_Ledger_firstShutting_15, s_Ledger_firstShutting_18, s_Ledger_firstShutting_18n, s_Ledger_firstShutting_20, s_Ledger_firstShutting_20n, s_Ledger_firstShutting_22n, s_Ledger_firstShutting_22, s_Ledger_firstShutting_25, s_Ledger_firstShutting_25n, s_Ledger_firstShutting_27, s_Ledger_firstShutting_30, s_Ledger_firstShutting_33, s_Ledger_firstShutting_33n, s_Ledger_firstShutting_35, s_Ledger_firstShutting_38, s_Ledger_firstShutting_39, s_Ledger_firstShutting_42, s_Ledger_firstShutting_42n, s_Ledger_firstShutting_44, s_Ledger_firstShutting_47, s_Ledger_firstShutting_49, s_Ledger_firstShutting_52, s_Ledger_firstShutting_52n, s_Ledger_firstShutting_54, s_Ledger_firstShutting_57, s_Ledger_firstShutting_58, s_Ledger_firstShutting_61, s_Ledger_firstShutting_62, s_Ledger_firstShutting_62n, s_Ledger_firstShutting_64, s_Ledger_firstShutting_67, s_Ledger_firstShutting_70, s_Ledger_firstShutting_73, s_Ledger_firstShutting_75, s_Ledger_firstShutting_76, s_Ledger_firstShutting_79, s_Ledger_firstShutting_82, s_Ledger_firstShutting_83, ↓reduceIte, Nat.reduceEqDiff, Nat.reduceLT, am_top, ax_f_some, ax_k_some, ax_k_none, s8_0, s8_1, s8_2, s8_3, s8_4, c2p_n, c2p_i, c2p_r, c2p_z, okvp_i, okvp_l, okvp_r, okvp_n, okvp_z, okvp_z0, okvp_z1, bi_narp, am_nar0p, am_nar1p, bi_0, bi_1, true_and, and_true]
  exact hl
theorem Ld_for_loop (h : SH σ) (hn : gi σ 36 2 2 = nI n) (hle : n ≤ 60) (hS : SalAt σ n A v) (pics : Int64) (land use size : Int32) : ∀ j k, k + j = n → ∀ z : Option Value, ax k_Ledger_firstFor 3 [some (.ref 36), some (.long pics), none, some (.int land), some (.int use), some (.int size), some (.int (nI k)), z] [] σ Q = Q (some (.int (oI (fstR (forB v pics land use size) k j)))) σ := by
  intro j
  induction j with
  | zero =>
    intro k hk z
    have hk : k = n := by omega
    subst hk
    have hc : ¬ nI k < nI k := Int32.lt_irrefl
    rw [s_Ledger_firstFor_3]
    simp only [s_Ledger_firstFor_0, s_Ledger_firstFor_1, s_Ledger_firstFor_5, s_Ledger_firstFor_6, s_Ledger_firstFor_9, s_Ledger_firstFor_12, s_Ledger_firstFor_13, s_Ledger_firstFor_15, s_Ledger_firstFor_18, s_Ledger_firstFor_18n, s_Ledger_firstFor_20, s_Ledger_firstFor_20n, s_Ledger_firstFor_22n, s_Ledger_firstFor_22, s_Ledger_firstFor_25, s_Ledger_firstFor_25n, s_Ledger_firstFor_27, s_Ledger_firstFor_30, s_Ledger_firstFor_33, s_Ledger_firstFor_33n, s_Ledger_firstFor_35, s_Ledger_firstFor_38, s_Ledger_firstFor_39, s_Ledger_firstFor_42, s_Ledger_firstFor_42n, s_Ledger_firstFor_44, s_Ledger_firstFor_47, s_Ledger_firstFor_48, s_Ledger_firstFor_51, s_Ledger_firstFor_51n, s_Ledger_firstFor_53, s_Ledger_firstFor_56, s_Ledger_firstFor_58, s_Ledger_firstFor_61, s_Ledger_firstFor_61n, s_Ledger_firstFor_63, s_Ledger_firstFor_66, s_Ledger_firstFor_68, s_Ledger_firstFor_71, s_Ledger_firstFor_72, s_Ledger_firstFor_72n, s_Ledger_firstFor_74, s_Ledger_firstFor_77, s_Ledger_firstFor_80, s_Ledger_firstFor_83, s_Ledger_firstFor_85, s_Ledger_firstFor_86, s_Ledger_firstFor_89, s_Ledger_firstFor_92, s_Ledger_firstFor_93, ↓reduceIte, Nat.reduceEqDiff, Nat.reduceLT, am_top, ax_f_some, ax_k_some, ax_k_none, s8_0, s8_1, s8_2, s8_3, s8_4, c2p_n, c2p_i, c2p_r, c2p_z, okvp_i, okvp_l, okvp_r, okvp_n, okvp_z, okvp_z0, okvp_z1, bi_narp, am_nar0p, am_nar1p, bi_0, bi_1, true_and, and_true, r_36_0 h, r_36_1 h, i_36_2 h, i_36_3 h, i_36_4 h, o_36 h, hn, hc, fstR, oI, Option.elim_none]
  | succ j ih =>
    intro k hk z
    have ih := ih (k + 1) (by omega) (some (.ref (A k)))
    have hc : nI k < nI n := nI_lt (by omega) (by omega)
    obtain ⟨e1, e2, e3⟩ := hS k (by omega)
    have f0 : am_fld σ (A k) 5 0 = some (.int (v k 0)) := fld_get e2
    have f1 : am_fld σ (A k) 5 1 = some (.int (v k 1)) := fld_get e2
    have f2 : am_fld σ (A k) 5 2 = some (.int (v k 2)) := fld_get e2
    have f3 : am_fld σ (A k) 5 3 = some (.int (v k 3)) := fld_get e2
    have f4 : am_fld σ (A k) 5 4 = some (.int (v k 4)) := fld_get e2
    have f5 : am_fld σ (A k) 5 5 = some (.int (v k 5)) := fld_get e2
    have f6 : am_fld σ (A k) 5 6 = some (.int (v k 6)) := fld_get e2
    have f7 : am_fld σ (A k) 5 7 = some (.int (v k 7)) := fld_get e2
    have f8 : am_fld σ (A k) 5 8 = some (.int (v k 8)) := fld_get e2
    have f9 : am_fld σ (A k) 5 9 = some (.int (v k 9)) := fld_get e2
    have f10 : am_fld σ (A k) 5 10 = some (.int (v k 10)) := fld_get e2
    have f11 : am_fld σ (A k) 5 11 = some (.int (v k 11)) := fld_get e2
    have f12 : am_fld σ (A k) 5 12 = some (.int (v k 12)) := fld_get e2
    rw [s_Ledger_firstFor_3]
    simp only [s_Ledger_firstFor_0, s_Ledger_firstFor_1, s_Ledger_firstFor_5, s_Ledger_firstFor_6, s_Ledger_firstFor_9, s_Ledger_firstFor_12, s_Ledger_firstFor_13, s_Ledger_firstFor_15, s_Ledger_firstFor_18, s_Ledger_firstFor_18n, s_Ledger_firstFor_20, s_Ledger_firstFor_20n, s_Ledger_firstFor_22n, s_Ledger_firstFor_22, s_Ledger_firstFor_25, s_Ledger_firstFor_25n, s_Ledger_firstFor_27, s_Ledger_firstFor_30, s_Ledger_firstFor_33, s_Ledger_firstFor_33n, s_Ledger_firstFor_35, s_Ledger_firstFor_38, s_Ledger_firstFor_39, s_Ledger_firstFor_42, s_Ledger_firstFor_42n, s_Ledger_firstFor_44, s_Ledger_firstFor_47, s_Ledger_firstFor_48, s_Ledger_firstFor_51, s_Ledger_firstFor_51n, s_Ledger_firstFor_53, s_Ledger_firstFor_56, s_Ledger_firstFor_58, s_Ledger_firstFor_61, s_Ledger_firstFor_61n, s_Ledger_firstFor_63, s_Ledger_firstFor_66, s_Ledger_firstFor_68, s_Ledger_firstFor_71, s_Ledger_firstFor_72, s_Ledger_firstFor_72n, s_Ledger_firstFor_74, s_Ledger_firstFor_77, s_Ledger_firstFor_80, s_Ledger_firstFor_83, s_Ledger_firstFor_85, s_Ledger_firstFor_86, s_Ledger_firstFor_89, s_Ledger_firstFor_92, s_Ledger_firstFor_93, ↓reduceIte, Nat.reduceEqDiff, Nat.reduceLT, am_top, ax_f_some, ax_k_some, ax_k_none, s8_0, s8_1, s8_2, s8_3, s8_4, c2p_n, c2p_i, c2p_r, c2p_z, okvp_i, okvp_l, okvp_r, okvp_n, okvp_z, okvp_z0, okvp_z1, bi_narp, am_nar0p, am_nar1p, bi_0, bi_1, true_and, and_true, r_36_0 h, r_36_1 h, i_36_2 h, i_36_3 h, i_36_4 h, o_36 h, hn, hc, Ld_saleAt h hn hle hS (show k < n by omega), f0, f1, f2, f3, f4, f5, f6, f7, f8, f9, f10, f11, f12, A_holds, nI_1, ih]
    by_cases a1 : v k 11 = 0
    · by_cases a2 : v k 12 = -1
      · by_cases a3 : v k 1 = land
        · by_cases a4 : v k 2 = use
          · by_cases a6 : v k 3 < size
            · simp [fstR, forB, a1, a2, a3, a4, a6]
            · cases a5 : hldB pics (v k 0) <;> simp [fstR, forB, a1, a2, a3, a4, a5, a6, oI]
          · simp [fstR, forB, a1, a2, a3, a4]
        · simp [fstR, forB, a1, a2, a3]
      · simp [fstR, forB, a1, a2]
    · simp [fstR, forB, a1]
theorem Ld_for (h : SH σ) (hn : gi σ 36 2 2 = nI n) (hle : n ≤ 60) (hS : SalAt σ n A v) (pics : Int64) (land use size : Int32) : ax k_Ledger_firstFor 0 [some (.ref 36), some (.long pics), none, some (.int land), some (.int use), some (.int size), none, none] [] σ Q = Q (some (.int (oI (fstR (forB v pics land use size) 0 n)))) σ := by
  have hl := Ld_for_loop (Q := Q) h hn hle hS pics land use size n 0 (by omega) none
  rw [nI_0] at hl
  simp only [s_Ledger_firstFor_0, s_Ledger_firstFor_1, s_Ledger_firstFor_5, s_Ledger_firstFor_6, s_Ledger_firstFor_9, s_Ledger_firstFor_12, s_Ledger_firstFor_13, s_Ledger_firstFor_15, s_Ledger_firstFor_18, s_Ledger_firstFor_18n, s_Ledger_firstFor_20, s_Ledger_firstFor_20n, s_Ledger_firstFor_22n, s_Ledger_firstFor_22, s_Ledger_firstFor_25, s_Ledger_firstFor_25n, s_Ledger_firstFor_27, s_Ledger_firstFor_30, s_Ledger_firstFor_33, s_Ledger_firstFor_33n, s_Ledger_firstFor_35, s_Ledger_firstFor_38, s_Ledger_firstFor_39, s_Ledger_firstFor_42, s_Ledger_firstFor_42n, s_Ledger_firstFor_44, s_Ledger_firstFor_47, s_Ledger_firstFor_48, s_Ledger_firstFor_51, s_Ledger_firstFor_51n, s_Ledger_firstFor_53, s_Ledger_firstFor_56, s_Ledger_firstFor_58, s_Ledger_firstFor_61, s_Ledger_firstFor_61n, s_Ledger_firstFor_63, s_Ledger_firstFor_66, s_Ledger_firstFor_68, s_Ledger_firstFor_71, s_Ledger_firstFor_72, s_Ledger_firstFor_72n, s_Ledger_firstFor_74, s_Ledger_firstFor_77, s_Ledger_firstFor_80, s_Ledger_firstFor_83, s_Ledger_firstFor_85, s_Ledger_firstFor_86, s_Ledger_firstFor_89, s_Ledger_firstFor_92, s_Ledger_firstFor_93, ↓reduceIte, Nat.reduceEqDiff, Nat.reduceLT, am_top, ax_f_some, ax_k_some, ax_k_none, s8_0, s8_1, s8_2, s8_3, s8_4, c2p_n, c2p_i, c2p_r, c2p_z, okvp_i, okvp_l, okvp_r, okvp_n, okvp_z, okvp_z0, okvp_z1, bi_narp, am_nar0p, am_nar1p, bi_0, bi_1, true_and, and_true]
  exact hl
theorem Ld_gain_loop (h : SH σ) (hn : gi σ 36 2 2 = nI n) (hle : n ≤ 60) (hS : SalAt σ n A v) (x : Int32) : ∀ j k, k + j = n → ∀ z : Option Value, ax k_Ledger_gainOf 5 [some (.ref 36), some (.int x), some (.long (gaiF v x k)), none, some (.int (nI k)), z] [] σ Q = Q (some (.long (gaiF v x n))) σ := by
  intro j
  induction j with
  | zero =>
    intro k hk z
    have hk : k = n := by omega
    subst hk
    have hc : ¬ nI k < nI k := Int32.lt_irrefl
    rw [s_Ledger_gainOf_5]
    simp only [s_Ledger_gainOf_0, s_Ledger_gainOf_1, s_Ledger_gainOf_2, s_Ledger_gainOf_3, s_Ledger_gainOf_7, s_Ledger_gainOf_8, s_Ledger_gainOf_11, s_Ledger_gainOf_14, s_Ledger_gainOf_15, s_Ledger_gainOf_17, s_Ledger_gainOf_20, s_Ledger_gainOf_20n, s_Ledger_gainOf_22, s_Ledger_gainOf_22n, s_Ledger_gainOf_24n, s_Ledger_gainOf_24, s_Ledger_gainOf_27, s_Ledger_gainOf_27n, s_Ledger_gainOf_29, s_Ledger_gainOf_32, s_Ledger_gainOf_35, s_Ledger_gainOf_36, s_Ledger_gainOf_36n, s_Ledger_gainOf_38, s_Ledger_gainOf_41, s_Ledger_gainOf_42, s_Ledger_gainOf_45, s_Ledger_gainOf_45n, s_Ledger_gainOf_47, s_Ledger_gainOf_50, s_Ledger_gainOf_51, s_Ledger_gainOf_54, s_Ledger_gainOf_55, s_Ledger_gainOf_56, s_Ledger_gainOf_57, s_Ledger_gainOf_58, s_Ledger_gainOf_58n, s_Ledger_gainOf_60, s_Ledger_gainOf_63, s_Ledger_gainOf_64, s_Ledger_gainOf_67, s_Ledger_gainOf_67n, s_Ledger_gainOf_69, s_Ledger_gainOf_72, s_Ledger_gainOf_73, s_Ledger_gainOf_76, s_Ledger_gainOf_77, s_Ledger_gainOf_78, s_Ledger_gainOf_79, s_Ledger_gainOf_82, s_Ledger_gainOf_85, s_Ledger_gainOf_86, ↓reduceIte, Nat.reduceEqDiff, Nat.reduceLT, am_top, ax_f_some, ax_k_some, ax_k_none, s8_0, s8_1, s8_2, s8_3, s8_4, c2p_n, c2p_i, c2p_r, c2p_z, okvp_i, okvp_l, okvp_r, okvp_n, okvp_z, okvp_z0, okvp_z1, bi_narp, am_nar0p, am_nar1p, bi_0, bi_1, true_and, and_true, r_36_0 h, r_36_1 h, i_36_2 h, i_36_3 h, i_36_4 h, o_36 h, hn, hc]
  | succ j ih =>
    intro k hk z
    have ih := ih (k + 1) (by omega) (some (.ref (A k)))
    have hc : nI k < nI n := nI_lt (by omega) (by omega)
    obtain ⟨e1, e2, e3⟩ := hS k (by omega)
    have f0 : am_fld σ (A k) 5 0 = some (.int (v k 0)) := fld_get e2
    have f1 : am_fld σ (A k) 5 1 = some (.int (v k 1)) := fld_get e2
    have f2 : am_fld σ (A k) 5 2 = some (.int (v k 2)) := fld_get e2
    have f3 : am_fld σ (A k) 5 3 = some (.int (v k 3)) := fld_get e2
    have f4 : am_fld σ (A k) 5 4 = some (.int (v k 4)) := fld_get e2
    have f5 : am_fld σ (A k) 5 5 = some (.int (v k 5)) := fld_get e2
    have f6 : am_fld σ (A k) 5 6 = some (.int (v k 6)) := fld_get e2
    have f7 : am_fld σ (A k) 5 7 = some (.int (v k 7)) := fld_get e2
    have f8 : am_fld σ (A k) 5 8 = some (.int (v k 8)) := fld_get e2
    have f9 : am_fld σ (A k) 5 9 = some (.int (v k 9)) := fld_get e2
    have f10 : am_fld σ (A k) 5 10 = some (.int (v k 10)) := fld_get e2
    have f11 : am_fld σ (A k) 5 11 = some (.int (v k 11)) := fld_get e2
    have f12 : am_fld σ (A k) 5 12 = some (.int (v k 12)) := fld_get e2
    rw [s_Ledger_gainOf_5]
    simp only [s_Ledger_gainOf_0, s_Ledger_gainOf_1, s_Ledger_gainOf_2, s_Ledger_gainOf_3, s_Ledger_gainOf_7, s_Ledger_gainOf_8, s_Ledger_gainOf_11, s_Ledger_gainOf_14, s_Ledger_gainOf_15, s_Ledger_gainOf_17, s_Ledger_gainOf_20, s_Ledger_gainOf_20n, s_Ledger_gainOf_22, s_Ledger_gainOf_22n, s_Ledger_gainOf_24n, s_Ledger_gainOf_24, s_Ledger_gainOf_27, s_Ledger_gainOf_27n, s_Ledger_gainOf_29, s_Ledger_gainOf_32, s_Ledger_gainOf_35, s_Ledger_gainOf_36, s_Ledger_gainOf_36n, s_Ledger_gainOf_38, s_Ledger_gainOf_41, s_Ledger_gainOf_42, s_Ledger_gainOf_45, s_Ledger_gainOf_45n, s_Ledger_gainOf_47, s_Ledger_gainOf_50, s_Ledger_gainOf_51, s_Ledger_gainOf_54, s_Ledger_gainOf_55, s_Ledger_gainOf_56, s_Ledger_gainOf_57, s_Ledger_gainOf_58, s_Ledger_gainOf_58n, s_Ledger_gainOf_60, s_Ledger_gainOf_63, s_Ledger_gainOf_64, s_Ledger_gainOf_67, s_Ledger_gainOf_67n, s_Ledger_gainOf_69, s_Ledger_gainOf_72, s_Ledger_gainOf_73, s_Ledger_gainOf_76, s_Ledger_gainOf_77, s_Ledger_gainOf_78, s_Ledger_gainOf_79, s_Ledger_gainOf_82, s_Ledger_gainOf_85, s_Ledger_gainOf_86, ↓reduceIte, Nat.reduceEqDiff, Nat.reduceLT, am_top, ax_f_some, ax_k_some, ax_k_none, s8_0, s8_1, s8_2, s8_3, s8_4, c2p_n, c2p_i, c2p_r, c2p_z, okvp_i, okvp_l, okvp_r, okvp_n, okvp_z, okvp_z0, okvp_z1, bi_narp, am_nar0p, am_nar1p, bi_0, bi_1, true_and, and_true, r_36_0 h, r_36_1 h, i_36_2 h, i_36_3 h, i_36_4 h, o_36 h, hn, hc, Ld_saleAt h hn hle hS (show k < n by omega), f0, f1, f2, f3, f4, f5, f6, f7, f8, f9, f10, f11, f12, nI_1]
    rw [← ih]
    by_cases a1 : v k 11 = 0
    · by_cases a2 : v k 7 = x <;> by_cases a3 : v k 9 = x <;> simp only [gaiF, a1, a2, a3, ↓reduceIte]
    · simp only [gaiF, if_neg a1]
theorem Ld_gain (h : SH σ) (hn : gi σ 36 2 2 = nI n) (hle : n ≤ 60) (hS : SalAt σ n A v) (x : Int32) : ax k_Ledger_gainOf 0 [some (.ref 36), some (.int x), none, none, none, none] [] σ Q = Q (some (.long (gaiF v x n))) σ := by
  have hl := Ld_gain_loop (Q := Q) h hn hle hS x n 0 (by omega) none
  simp only [gaiF, nI_0] at hl
  simp only [s_Ledger_gainOf_0, s_Ledger_gainOf_1, s_Ledger_gainOf_2, s_Ledger_gainOf_3, s_Ledger_gainOf_7, s_Ledger_gainOf_8, s_Ledger_gainOf_11, s_Ledger_gainOf_14, s_Ledger_gainOf_15, s_Ledger_gainOf_17, s_Ledger_gainOf_20, s_Ledger_gainOf_20n, s_Ledger_gainOf_22, s_Ledger_gainOf_22n, s_Ledger_gainOf_24n, s_Ledger_gainOf_24, s_Ledger_gainOf_27, s_Ledger_gainOf_27n, s_Ledger_gainOf_29, s_Ledger_gainOf_32, s_Ledger_gainOf_35, s_Ledger_gainOf_36, s_Ledger_gainOf_36n, s_Ledger_gainOf_38, s_Ledger_gainOf_41, s_Ledger_gainOf_42, s_Ledger_gainOf_45, s_Ledger_gainOf_45n, s_Ledger_gainOf_47, s_Ledger_gainOf_50, s_Ledger_gainOf_51, s_Ledger_gainOf_54, s_Ledger_gainOf_55, s_Ledger_gainOf_56, s_Ledger_gainOf_57, s_Ledger_gainOf_58, s_Ledger_gainOf_58n, s_Ledger_gainOf_60, s_Ledger_gainOf_63, s_Ledger_gainOf_64, s_Ledger_gainOf_67, s_Ledger_gainOf_67n, s_Ledger_gainOf_69, s_Ledger_gainOf_72, s_Ledger_gainOf_73, s_Ledger_gainOf_76, s_Ledger_gainOf_77, s_Ledger_gainOf_78, s_Ledger_gainOf_79, s_Ledger_gainOf_82, s_Ledger_gainOf_85, s_Ledger_gainOf_86, ↓reduceIte, Nat.reduceEqDiff, Nat.reduceLT, am_top, ax_f_some, ax_k_some, ax_k_none, s8_0, s8_1, s8_2, s8_3, s8_4, c2p_n, c2p_i, c2p_r, c2p_z, okvp_i, okvp_l, okvp_r, okvp_n, okvp_z, okvp_z0, okvp_z1, bi_narp, am_nar0p, am_nar1p, bi_0, bi_1, true_and, and_true]
  exact hl
theorem Ld_gag_loop (h : SH σ) (hn : gi σ 36 2 2 = nI n) (hle : n ≤ 60) (hS : SalAt σ n A v) : ∀ j k, k + j = n → ∀ z : Option Value, ax k_Ledger_gainOfAgency 4 [some (.ref 36), some (.long (gagF v k)), none, some (.int (nI k)), z] [] σ Q = Q (some (.long (gagF v n))) σ := by
  intro j
  induction j with
  | zero =>
    intro k hk z
    have hk : k = n := by omega
    subst hk
    have hc : ¬ nI k < nI k := Int32.lt_irrefl
    rw [s_Ledger_gainOfAgency_4]
    simp only [s_Ledger_gainOfAgency_0, s_Ledger_gainOfAgency_1, s_Ledger_gainOfAgency_2, s_Ledger_gainOfAgency_3, s_Ledger_gainOfAgency_5, s_Ledger_gainOfAgency_6, s_Ledger_gainOfAgency_9, s_Ledger_gainOfAgency_12, s_Ledger_gainOfAgency_13, s_Ledger_gainOfAgency_14, s_Ledger_gainOfAgency_17, s_Ledger_gainOfAgency_17n, s_Ledger_gainOfAgency_19, s_Ledger_gainOfAgency_19n, s_Ledger_gainOfAgency_21n, s_Ledger_gainOfAgency_21, s_Ledger_gainOfAgency_24, s_Ledger_gainOfAgency_24n, s_Ledger_gainOfAgency_26, s_Ledger_gainOfAgency_29, s_Ledger_gainOfAgency_32, s_Ledger_gainOfAgency_33, s_Ledger_gainOfAgency_33n, s_Ledger_gainOfAgency_35, s_Ledger_gainOfAgency_38, s_Ledger_gainOfAgency_38n, s_Ledger_gainOfAgency_40, s_Ledger_gainOfAgency_43, s_Ledger_gainOfAgency_44, s_Ledger_gainOfAgency_44n, s_Ledger_gainOfAgency_46, s_Ledger_gainOfAgency_49, s_Ledger_gainOfAgency_50, s_Ledger_gainOfAgency_51, s_Ledger_gainOfAgency_52, s_Ledger_gainOfAgency_53, s_Ledger_gainOfAgency_56, s_Ledger_gainOfAgency_59, s_Ledger_gainOfAgency_60, ↓reduceIte, Nat.reduceEqDiff, Nat.reduceLT, am_top, ax_f_some, ax_k_some, ax_k_none, s8_0, s8_1, s8_2, s8_3, s8_4, c2p_n, c2p_i, c2p_r, c2p_z, okvp_i, okvp_l, okvp_r, okvp_n, okvp_z, okvp_z0, okvp_z1, bi_narp, am_nar0p, am_nar1p, bi_0, bi_1, true_and, and_true, r_36_0 h, r_36_1 h, i_36_2 h, i_36_3 h, i_36_4 h, o_36 h, hn, hc]
  | succ j ih =>
    intro k hk z
    have ih := ih (k + 1) (by omega) (some (.ref (A k)))
    have hc : nI k < nI n := nI_lt (by omega) (by omega)
    obtain ⟨e1, e2, e3⟩ := hS k (by omega)
    have f0 : am_fld σ (A k) 5 0 = some (.int (v k 0)) := fld_get e2
    have f1 : am_fld σ (A k) 5 1 = some (.int (v k 1)) := fld_get e2
    have f2 : am_fld σ (A k) 5 2 = some (.int (v k 2)) := fld_get e2
    have f3 : am_fld σ (A k) 5 3 = some (.int (v k 3)) := fld_get e2
    have f4 : am_fld σ (A k) 5 4 = some (.int (v k 4)) := fld_get e2
    have f5 : am_fld σ (A k) 5 5 = some (.int (v k 5)) := fld_get e2
    have f6 : am_fld σ (A k) 5 6 = some (.int (v k 6)) := fld_get e2
    have f7 : am_fld σ (A k) 5 7 = some (.int (v k 7)) := fld_get e2
    have f8 : am_fld σ (A k) 5 8 = some (.int (v k 8)) := fld_get e2
    have f9 : am_fld σ (A k) 5 9 = some (.int (v k 9)) := fld_get e2
    have f10 : am_fld σ (A k) 5 10 = some (.int (v k 10)) := fld_get e2
    have f11 : am_fld σ (A k) 5 11 = some (.int (v k 11)) := fld_get e2
    have f12 : am_fld σ (A k) 5 12 = some (.int (v k 12)) := fld_get e2
    rw [s_Ledger_gainOfAgency_4]
    simp only [s_Ledger_gainOfAgency_0, s_Ledger_gainOfAgency_1, s_Ledger_gainOfAgency_2, s_Ledger_gainOfAgency_3, s_Ledger_gainOfAgency_5, s_Ledger_gainOfAgency_6, s_Ledger_gainOfAgency_9, s_Ledger_gainOfAgency_12, s_Ledger_gainOfAgency_13, s_Ledger_gainOfAgency_14, s_Ledger_gainOfAgency_17, s_Ledger_gainOfAgency_17n, s_Ledger_gainOfAgency_19, s_Ledger_gainOfAgency_19n, s_Ledger_gainOfAgency_21n, s_Ledger_gainOfAgency_21, s_Ledger_gainOfAgency_24, s_Ledger_gainOfAgency_24n, s_Ledger_gainOfAgency_26, s_Ledger_gainOfAgency_29, s_Ledger_gainOfAgency_32, s_Ledger_gainOfAgency_33, s_Ledger_gainOfAgency_33n, s_Ledger_gainOfAgency_35, s_Ledger_gainOfAgency_38, s_Ledger_gainOfAgency_38n, s_Ledger_gainOfAgency_40, s_Ledger_gainOfAgency_43, s_Ledger_gainOfAgency_44, s_Ledger_gainOfAgency_44n, s_Ledger_gainOfAgency_46, s_Ledger_gainOfAgency_49, s_Ledger_gainOfAgency_50, s_Ledger_gainOfAgency_51, s_Ledger_gainOfAgency_52, s_Ledger_gainOfAgency_53, s_Ledger_gainOfAgency_56, s_Ledger_gainOfAgency_59, s_Ledger_gainOfAgency_60, ↓reduceIte, Nat.reduceEqDiff, Nat.reduceLT, am_top, ax_f_some, ax_k_some, ax_k_none, s8_0, s8_1, s8_2, s8_3, s8_4, c2p_n, c2p_i, c2p_r, c2p_z, okvp_i, okvp_l, okvp_r, okvp_n, okvp_z, okvp_z0, okvp_z1, bi_narp, am_nar0p, am_nar1p, bi_0, bi_1, true_and, and_true, r_36_0 h, r_36_1 h, i_36_2 h, i_36_3 h, i_36_4 h, o_36 h, hn, hc, Ld_saleAt h hn hle hS (show k < n by omega), f0, f1, f2, f3, f4, f5, f6, f7, f8, f9, f10, f11, f12, nI_1]
    rw [← ih]
    by_cases a1 : v k 11 = 0
    · simp only [gagF, a1, ↓reduceIte]
    · simp only [gagF, if_neg a1]
theorem Ld_gag (h : SH σ) (hn : gi σ 36 2 2 = nI n) (hle : n ≤ 60) (hS : SalAt σ n A v) : ax k_Ledger_gainOfAgency 0 [some (.ref 36), none, none, none, none] [] σ Q = Q (some (.long (gagF v n))) σ := by
  have hl := Ld_gag_loop (Q := Q) h hn hle hS n 0 (by omega) none
  simp only [gagF, nI_0] at hl
  simp only [s_Ledger_gainOfAgency_0, s_Ledger_gainOfAgency_1, s_Ledger_gainOfAgency_2, s_Ledger_gainOfAgency_3, s_Ledger_gainOfAgency_5, s_Ledger_gainOfAgency_6, s_Ledger_gainOfAgency_9, s_Ledger_gainOfAgency_12, s_Ledger_gainOfAgency_13, s_Ledger_gainOfAgency_14, s_Ledger_gainOfAgency_17, s_Ledger_gainOfAgency_17n, s_Ledger_gainOfAgency_19, s_Ledger_gainOfAgency_19n, s_Ledger_gainOfAgency_21n, s_Ledger_gainOfAgency_21, s_Ledger_gainOfAgency_24, s_Ledger_gainOfAgency_24n, s_Ledger_gainOfAgency_26, s_Ledger_gainOfAgency_29, s_Ledger_gainOfAgency_32, s_Ledger_gainOfAgency_33, s_Ledger_gainOfAgency_33n, s_Ledger_gainOfAgency_35, s_Ledger_gainOfAgency_38, s_Ledger_gainOfAgency_38n, s_Ledger_gainOfAgency_40, s_Ledger_gainOfAgency_43, s_Ledger_gainOfAgency_44, s_Ledger_gainOfAgency_44n, s_Ledger_gainOfAgency_46, s_Ledger_gainOfAgency_49, s_Ledger_gainOfAgency_50, s_Ledger_gainOfAgency_51, s_Ledger_gainOfAgency_52, s_Ledger_gainOfAgency_53, s_Ledger_gainOfAgency_56, s_Ledger_gainOfAgency_59, s_Ledger_gainOfAgency_60, ↓reduceIte, Nat.reduceEqDiff, Nat.reduceLT, am_top, ax_f_some, ax_k_some, ax_k_none, s8_0, s8_1, s8_2, s8_3, s8_4, c2p_n, c2p_i, c2p_r, c2p_z, okvp_i, okvp_l, okvp_r, okvp_n, okvp_z, okvp_z0, okvp_z1, bi_narp, am_nar0p, am_nar1p, bi_0, bi_1, true_and, and_true]
  exact hl
theorem Ld_ledTo (h : SH σ) {k : Nat} (hk : gi σ 36 2 3 = nI k) (hle : k ≤ 60) (x : Int32) : ax k_Ledger_ledTo 0 [some (.ref 36), some (.int x)] [] σ Q = Q (some (.int (if ltB x (nI k) = true then ga σ 38 x.toNatClampNeg else -1))) σ := by
  cases c1 : ltB x (nI k)
  · simp only [s_Ledger_ledTo_0, s_Ledger_ledTo_1, s_Ledger_ledTo_4, s_Ledger_ledTo_5, s_Ledger_ledTo_6, s_Ledger_ledTo_9, s_Ledger_ledTo_12, s_Ledger_ledTo_13, s_Ledger_ledTo_16, s_Ledger_ledTo_17, s_Ledger_ledTo_18, s_Ledger_ledTo_21, s_Ledger_ledTo_22, ↓reduceIte, Nat.reduceEqDiff, Nat.reduceLT, am_top, ax_f_some, ax_k_some, ax_k_none, s8_0, s8_1, s8_2, s8_3, s8_4, c2p_n, c2p_i, c2p_r, c2p_z, okvp_i, okvp_l, okvp_r, okvp_n, okvp_z, okvp_z0, okvp_z1, bi_narp, am_nar0p, am_nar1p, bi_0, bi_1, true_and, and_true, r_36_0 h, r_36_1 h, i_36_2 h, i_36_3 h, i_36_4 h, o_36 h, hk, Bool.false_eq_true]
    by_cases c2 : x < 0
    · simp [c2]
    · have c3 : ¬ x < nI k := by
        intro z
        simp [ltB, c2, z] at c1
      simp [c2, c3]
  · obtain ⟨a, ha, rfl⟩ := ltB_ix (by omega) c1
    have hp : ¬ nI a < 0 := nI_pos (by omega)
    have hc : nI a < nI k := nI_lt ha (by omega)
    have hix1 := ix_nI (show a < 60 by omega) (by omega)
    simp only [s_Ledger_ledTo_0, s_Ledger_ledTo_1, s_Ledger_ledTo_4, s_Ledger_ledTo_5, s_Ledger_ledTo_6, s_Ledger_ledTo_9, s_Ledger_ledTo_12, s_Ledger_ledTo_13, s_Ledger_ledTo_16, s_Ledger_ledTo_17, s_Ledger_ledTo_18, s_Ledger_ledTo_21, s_Ledger_ledTo_22, ↓reduceIte, Nat.reduceEqDiff, Nat.reduceLT, am_top, ax_f_some, ax_k_some, ax_k_none, s8_0, s8_1, s8_2, s8_3, s8_4, c2p_n, c2p_i, c2p_r, c2p_z, okvp_i, okvp_l, okvp_r, okvp_n, okvp_z, okvp_z0, okvp_z1, bi_narp, am_nar0p, am_nar1p, bi_0, bi_1, true_and, and_true, r_36_0 h, r_36_1 h, i_36_2 h, i_36_3 h, i_36_4 h, o_36 h, j_38 h, n_38 h, hk, hp, hc, hix1]
theorem Ld_lead_no (h : SH σ) (hn : gi σ 36 2 2 = nI n) {k c : Nat} (hk : gi σ 36 2 3 = nI k) (hlt : k < 60) (hc4 : gi σ 36 2 4 = nI c) {x : Int32} (hx : ltB x (nI n) = false) : ax k_Ledger_lead 0 [some (.ref 36), some (.int x), none] [] σ Q = Q (some (.int (nI k))) (am_put (am_put (am_set σ 38 (am_ia 0 60 (upd (ga σ 38) k (-1)))) 36 4 (.int (nI (c + 1)))) 36 3 (.int (nI (k + 1)))) := by
  have hc : nI k < nI 60 := nI_lt hlt (by omega)
  have hix := ix_nI (show k < 60 by omega) (by omega)
  have hcl : (nI k).toNatClampNeg = k := nI_clamp (by omega)
  simp only [s_Ledger_lead_0, s_Ledger_lead_1, s_Ledger_lead_4, s_Ledger_lead_6, s_Ledger_lead_9, s_Ledger_lead_10, s_Ledger_lead_11, s_Ledger_lead_12, s_Ledger_lead_13, s_Ledger_lead_16, s_Ledger_lead_16n, s_Ledger_lead_17, s_Ledger_lead_17n, s_Ledger_lead_18n, s_Ledger_lead_18, s_Ledger_lead_21, s_Ledger_lead_22, s_Ledger_lead_25, s_Ledger_lead_26, s_Ledger_lead_29, s_Ledger_lead_30, s_Ledger_lead_31, s_Ledger_lead_32, s_Ledger_lead_33, s_Ledger_lead_36, s_Ledger_lead_37, s_Ledger_lead_38, s_Ledger_lead_41, s_Ledger_lead_44, s_Ledger_lead_45, s_Ledger_lead_48, s_Ledger_lead_49, s_Ledger_lead_52, s_Ledger_lead_53, s_Ledger_lead_54, s_Ledger_lead_54n, s_Ledger_lead_55, s_Ledger_lead_56, s_Ledger_lead_59, s_Ledger_lead_62, s_Ledger_lead_63, s_Ledger_lead_64, s_Ledger_lead_67, s_Ledger_lead_68, s_Ledger_lead_69, s_Ledger_lead_72, s_Ledger_lead_73, s_Ledger_lead_76, s_Ledger_lead_77, s_Ledger_lead_78, ↓reduceIte, Nat.reduceEqDiff, Nat.reduceLT, am_top, ax_f_some, ax_k_some, ax_k_none, s8_0, s8_1, s8_2, s8_3, s8_4, c2p_n, c2p_i, c2p_r, c2p_z, okvp_i, okvp_l, okvp_r, okvp_n, okvp_z, okvp_z0, okvp_z1, bi_narp, am_nar0p, am_nar1p, bi_0, bi_1, true_and, and_true, fld_set_ne, j_set_ne, q_set_ne, lv_set_ne, nv_set_ne, is_set_ne, j_set_eq, lv_set_eq, q_set_eq, nv_set_i, nv_set_l, nv_set_q, fld_put_ne, fld_put_k, fld_put_same, Option.map_some, j_put, q_put, lv_put, nv_put, is_put, put_1, set_1, r_36_0 h, r_36_1 h, i_36_2 h, i_36_3 h, i_36_4 h, o_36 h, j_38 h, n_38 h, hk, hc4, e60, hc, Ld_saleAt_no h hn hx, hix, hcl, nI_1, nI_pred, not_false_eq_true]
theorem Ld_lead (h : SH σ) (hn : gi σ 36 2 2 = nI n) (hle : n ≤ 60) (hS : SalAt σ n A v) {k : Nat} (hk : gi σ 36 2 3 = nI k) (hlt : k < 60) {s : Nat} (hs : s < n) : ax k_Ledger_lead 0 [some (.ref 36), some (.int (nI s)), none] [] σ Q = Q (some (.int (nI k))) (am_put (am_put (am_set σ 38 (am_ia 0 60 (upd (ga σ 38) k (nI s)))) (A s) 12 (.int (nI k))) 36 3 (.int (nI (k + 1)))) := by
  obtain ⟨e1, e2, e3⟩ := hS s hs
  have e3' : (A s < 1000000) = True := eq_true e3.2
  have h36 : ¬ A s = 36 := by omega
  have h38 : ¬ A s = 38 := by omega
  have hc : nI k < nI 60 := nI_lt hlt (by omega)
  have hix := ix_nI (show k < 60 by omega) (by omega)
  have hcl : (nI k).toNatClampNeg = k := nI_clamp (by omega)
  have f12 : am_fld σ (A s) 5 12 = some (.int (v s 12)) := fld_get e2
  have h36' : ¬ 36 = A s := fun z => h36 z.symm
  simp only [s_Ledger_lead_0, s_Ledger_lead_1, s_Ledger_lead_4, s_Ledger_lead_6, s_Ledger_lead_9, s_Ledger_lead_10, s_Ledger_lead_11, s_Ledger_lead_12, s_Ledger_lead_13, s_Ledger_lead_16, s_Ledger_lead_16n, s_Ledger_lead_17, s_Ledger_lead_17n, s_Ledger_lead_18n, s_Ledger_lead_18, s_Ledger_lead_21, s_Ledger_lead_22, s_Ledger_lead_25, s_Ledger_lead_26, s_Ledger_lead_29, s_Ledger_lead_30, s_Ledger_lead_31, s_Ledger_lead_32, s_Ledger_lead_33, s_Ledger_lead_36, s_Ledger_lead_37, s_Ledger_lead_38, s_Ledger_lead_41, s_Ledger_lead_44, s_Ledger_lead_45, s_Ledger_lead_48, s_Ledger_lead_49, s_Ledger_lead_52, s_Ledger_lead_53, s_Ledger_lead_54, s_Ledger_lead_54n, s_Ledger_lead_55, s_Ledger_lead_56, s_Ledger_lead_59, s_Ledger_lead_62, s_Ledger_lead_63, s_Ledger_lead_64, s_Ledger_lead_67, s_Ledger_lead_68, s_Ledger_lead_69, s_Ledger_lead_72, s_Ledger_lead_73, s_Ledger_lead_76, s_Ledger_lead_77, s_Ledger_lead_78, ↓reduceIte, Nat.reduceEqDiff, Nat.reduceLT, am_top, ax_f_some, ax_k_some, ax_k_none, s8_0, s8_1, s8_2, s8_3, s8_4, c2p_n, c2p_i, c2p_r, c2p_z, okvp_i, okvp_l, okvp_r, okvp_n, okvp_z, okvp_z0, okvp_z1, bi_narp, am_nar0p, am_nar1p, bi_0, bi_1, true_and, and_true, fld_set_ne, j_set_ne, q_set_ne, lv_set_ne, nv_set_ne, is_set_ne, j_set_eq, lv_set_eq, q_set_eq, nv_set_i, nv_set_l, nv_set_q, fld_put_ne, fld_put_k, fld_put_same, Option.map_some, j_put, q_put, lv_put, nv_put, is_put, put_1, set_1, r_36_0 h, r_36_1 h, i_36_2 h, i_36_3 h, i_36_4 h, o_36 h, j_38 h, n_38 h, hk, e60, hc, Ld_saleAt h hn hle hS hs, hix, hcl, f12, e3', h36, h36', h38, nI_1, nI_pred, not_false_eq_true]
end LD
