/-! THE CLASS, 1: Log -/
theorem ofNat_nI (n : Nat) : Int32.ofNat n = nI n := rfl
theorem addm1 (x : Int32) : x + (-1) = x - 1 := by rw [Int32.sub_eq_add_neg]
theorem nI_neg1 : nI 0 - 1 = -1 := by decide
theorem lt_f {n : Nat} (h : n < 2 ^ 31) : (nI n < 0) = False := eq_false (nI_pos h)
theorem ne_kind {σ : am_H} {o ci k a kd n : Nat} {v : Value} {f : Nat → Int32} (h : am_fld σ o ci k = some v) (h2 : am_j σ a = some (kd, n, f)) : ¬ o = a := by
  intro e
  subst e
  unfold am_fld at h
  unfold am_j at h2
  split at h
  · rename_i q hq
    rw [hq] at h2
    cases h2
  · cases h
/-- a Log at o: its rows at a, b, c, of N places, n of them told -/
def LogAt (σ : am_H) (o a b c N n : Nat) (fm ft fv : Nat → Int32) : Prop :=
  am_fld σ o 3 0 = some (.ref a) ∧ am_fld σ o 3 1 = some (.ref b) ∧ am_fld σ o 3 2 = some (.ref c) ∧ am_fld σ o 3 3 = some (.int (nI n)) ∧ am_j σ a = some (0, N, fm) ∧ am_j σ b = some (0, N, ft) ∧ am_j σ c = some (0, N, fv) ∧ (¬ b = a ∧ ¬ c = a ∧ ¬ c = b) ∧ (o < am_top ∧ a < am_top ∧ b < am_top ∧ c < am_top) ∧ n ≤ N ∧ N < 1000
def latF (fm ft fv : Nat → Int32) (t m d : Int32) : Nat → Int32
  | 0 => d
  | n + 1 => if ft n = t then (if m < fm n then latF fm ft fv t m d n else fv n) else latF fm ft fv t m d n
section LG
variable {σ : am_H} {Q : Option Value → am_H → Prop} {o a b c N n : Nat} {fm ft fv : Nat → Int32}
theorem Log_tell (h : LogAt σ o a b c N n fm ft fv) (m t v : Int32) : ax k_Log_tell 0 [some (.ref o), some (.int m), some (.int t), some (.int v)] [] σ Q = (if n < N then Q (some (.int 1)) (am_put (am_set (am_set (am_set σ a (am_ia 0 N (upd fm n m))) b (am_ia 0 N (upd ft n t))) c (am_ia 0 N (upd fv n v))) o 3 (.int (nI (n + 1)))) else Q (some (.int 0)) σ) := by
  obtain ⟨h0, h1, h2, h3, ja, jb, jc, ⟨e1, e2, e3⟩, ⟨t0, t1, t2, t3⟩, hn, hN⟩ := h
  have na := nv_of_j ja
  have oa := ne_kind h0 ja
  have ob := ne_kind h0 jb
  have oc := ne_kind h0 jc
  by_cases hlt : n < N
  · have hix := ix_nI hlt (by omega)
    have hcl : (nI n).toNatClampNeg = n := nI_clamp (by omega)
    have hlt2 : nI n < nI N := nI_lt hlt (by omega)
    simp only [s_Log_tell_0, s_Log_tell_1, s_Log_tell_4, s_Log_tell_5, s_Log_tell_8, s_Log_tell_9, s_Log_tell_12, s_Log_tell_13, s_Log_tell_14, s_Log_tell_15, s_Log_tell_18, s_Log_tell_19, s_Log_tell_22, s_Log_tell_23, s_Log_tell_24, s_Log_tell_25, s_Log_tell_28, s_Log_tell_29, s_Log_tell_32, s_Log_tell_33, s_Log_tell_34, s_Log_tell_35, s_Log_tell_38, s_Log_tell_39, s_Log_tell_42, s_Log_tell_43, s_Log_tell_44, s_Log_tell_45, s_Log_tell_46, s_Log_tell_49, s_Log_tell_50, s_Log_tell_51, s_Log_tell_54, s_Log_tell_55, ↓reduceIte, Nat.reduceEqDiff, Nat.reduceLT, am_top, ax_f_some, ax_k_some, ax_k_none, s8_0, s8_1, s8_2, s8_3, s8_4, c2p_n, c2p_i, c2p_r, c2p_z, okvp_i, okvp_l, okvp_r, okvp_n, okvp_z, okvp_z0, okvp_z1, bi_narp, am_nar0p, am_nar1p, bi_0, bi_1, true_and, and_true, fld_set_ne, j_set_ne, q_set_ne, lv_set_ne, nv_set_ne, is_set_ne, j_set_eq, lv_set_eq, q_set_eq, nv_set_i, nv_set_l, nv_set_q, fld_put_ne, fld_put_k, fld_put_same, Option.map_some, j_put, q_put, lv_put, nv_put, is_put, put_1, set_1, h0, h1, h2, h3, ja, jb, jc, na, oa, ob, oc, e1, e2, e3, t0, t1, t2, t3, ofNat_nI, hlt2, if_true, hix, hcl, nI_1, hlt, not_false_eq_true]
  · have hlt2 : ¬ nI n < nI N := nI_nlt (by omega) (by omega)
    simp only [s_Log_tell_0, s_Log_tell_1, s_Log_tell_4, s_Log_tell_5, s_Log_tell_8, s_Log_tell_9, s_Log_tell_12, s_Log_tell_13, s_Log_tell_14, s_Log_tell_15, s_Log_tell_18, s_Log_tell_19, s_Log_tell_22, s_Log_tell_23, s_Log_tell_24, s_Log_tell_25, s_Log_tell_28, s_Log_tell_29, s_Log_tell_32, s_Log_tell_33, s_Log_tell_34, s_Log_tell_35, s_Log_tell_38, s_Log_tell_39, s_Log_tell_42, s_Log_tell_43, s_Log_tell_44, s_Log_tell_45, s_Log_tell_46, s_Log_tell_49, s_Log_tell_50, s_Log_tell_51, s_Log_tell_54, s_Log_tell_55, ↓reduceIte, Nat.reduceEqDiff, Nat.reduceLT, am_top, ax_f_some, ax_k_some, ax_k_none, s8_0, s8_1, s8_2, s8_3, s8_4, c2p_n, c2p_i, c2p_r, c2p_z, okvp_i, okvp_l, okvp_r, okvp_n, okvp_z, okvp_z0, okvp_z1, bi_narp, am_nar0p, am_nar1p, bi_0, bi_1, true_and, and_true, fld_set_ne, j_set_ne, q_set_ne, lv_set_ne, nv_set_ne, is_set_ne, j_set_eq, lv_set_eq, q_set_eq, nv_set_i, nv_set_l, nv_set_q, fld_put_ne, fld_put_k, fld_put_same, Option.map_some, j_put, q_put, lv_put, nv_put, is_put, put_1, set_1, h0, h1, h2, h3, ja, jb, jc, na, oa, ob, oc, e1, e2, e3, t0, t1, t2, t3, ofNat_nI, hlt2, if_false, hlt]
theorem Log_latest_loop (h : LogAt σ o a b c N n fm ft fv) (t m d : Int32) : ∀ k, k ≤ n → ax k_Log_latest 8 [some (.ref o), some (.int t), some (.int m), some (.int d), some (.int (nI k - 1))] [] σ Q = Q (some (.int (latF fm ft fv t m d k))) σ := by
  obtain ⟨h0, h1, h2, h3, ja, jb, jc, ⟨e1, e2, e3⟩, ⟨t0, t1, t2, t3⟩, hn, hN⟩ := h
  intro k
  induction k with
  | zero =>
    intro _
    have hz : (-1 : Int32) < 0 := by decide
    rw [s_Log_latest_8]
    simp only [s_Log_latest_0, s_Log_latest_1, s_Log_latest_4, s_Log_latest_5, s_Log_latest_6, s_Log_latest_10, s_Log_latest_13, s_Log_latest_14, s_Log_latest_17, s_Log_latest_19, s_Log_latest_20, s_Log_latest_21, s_Log_latest_24, s_Log_latest_25, s_Log_latest_28, s_Log_latest_30, s_Log_latest_31, s_Log_latest_32, s_Log_latest_35, s_Log_latest_36, s_Log_latest_39, s_Log_latest_41, s_Log_latest_42, s_Log_latest_43, s_Log_latest_46, s_Log_latest_49, s_Log_latest_50, ↓reduceIte, Nat.reduceEqDiff, Nat.reduceLT, am_top, ax_f_some, ax_k_some, ax_k_none, s8_0, s8_1, s8_2, s8_3, s8_4, c2p_n, c2p_i, c2p_r, c2p_z, okvp_i, okvp_l, okvp_r, okvp_n, okvp_z, okvp_z0, okvp_z1, bi_narp, am_nar0p, am_nar1p, bi_0, bi_1, true_and, and_true, nI_neg1, hz, if_true, latF]
  | succ k ih =>
    intro hk
    have ih := ih (by omega)
    have hix := ix_nI (show k < N by omega) (by omega)
    have hcl : (nI k).toNatClampNeg = k := nI_clamp (by omega)
    have hp : ¬ nI k < 0 := nI_pos (by omega)
    rw [s_Log_latest_8]
    simp only [s_Log_latest_0, s_Log_latest_1, s_Log_latest_4, s_Log_latest_5, s_Log_latest_6, s_Log_latest_10, s_Log_latest_13, s_Log_latest_14, s_Log_latest_17, s_Log_latest_19, s_Log_latest_20, s_Log_latest_21, s_Log_latest_24, s_Log_latest_25, s_Log_latest_28, s_Log_latest_30, s_Log_latest_31, s_Log_latest_32, s_Log_latest_35, s_Log_latest_36, s_Log_latest_39, s_Log_latest_41, s_Log_latest_42, s_Log_latest_43, s_Log_latest_46, s_Log_latest_49, s_Log_latest_50, nI_pred, ↓reduceIte, Nat.reduceEqDiff, Nat.reduceLT, am_top, ax_f_some, ax_k_some, ax_k_none, s8_0, s8_1, s8_2, s8_3, s8_4, c2p_n, c2p_i, c2p_r, c2p_z, okvp_i, okvp_l, okvp_r, okvp_n, okvp_z, okvp_z0, okvp_z1, bi_narp, am_nar0p, am_nar1p, bi_0, bi_1, true_and, and_true, h0, h1, h2, h3, ja, jb, jc, hix, hcl, hp, if_false, latF, addm1]
    by_cases hc1 : ft k = t
    · by_cases hc2 : m < fm k
      · simp only [hc1, hc2, if_true]; exact ih
      · simp only [hc1, hc2, if_true, if_false]
    · simp only [hc1, if_false]; exact ih
theorem Log_latest (h : LogAt σ o a b c N n fm ft fv) (t m d : Int32) : ax k_Log_latest 0 [some (.ref o), some (.int t), some (.int m), some (.int d), none] [] σ Q = Q (some (.int (latF fm ft fv t m d n))) σ := by
  have hl := Log_latest_loop (Q := Q) h t m d n (Nat.le_refl n)
  obtain ⟨h0, h1, h2, h3, -⟩ := h
  simp only [s_Log_latest_0, s_Log_latest_1, s_Log_latest_4, s_Log_latest_5, s_Log_latest_6, s_Log_latest_10, s_Log_latest_13, s_Log_latest_14, s_Log_latest_17, s_Log_latest_19, s_Log_latest_20, s_Log_latest_21, s_Log_latest_24, s_Log_latest_25, s_Log_latest_28, s_Log_latest_30, s_Log_latest_31, s_Log_latest_32, s_Log_latest_35, s_Log_latest_36, s_Log_latest_39, s_Log_latest_41, s_Log_latest_42, s_Log_latest_43, s_Log_latest_46, s_Log_latest_49, s_Log_latest_50, ↓reduceIte, Nat.reduceEqDiff, Nat.reduceLT, am_top, ax_f_some, ax_k_some, ax_k_none, s8_0, s8_1, s8_2, s8_3, s8_4, c2p_n, c2p_i, c2p_r, c2p_z, okvp_i, okvp_l, okvp_r, okvp_n, okvp_z, okvp_z0, okvp_z1, bi_narp, am_nar0p, am_nar1p, bi_0, bi_1, true_and, and_true, h3]
  exact hl
end LG
