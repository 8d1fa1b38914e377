/-! THE HEAP'S VIEWS behind a change -/
section HP
variable {σ : am_H} {a b ci k j kd n : Nat} {c : am_C} {v w : Value}
theorem get_set : am_get (am_set σ a c) b = if b = a then some c else am_get σ b := rfl
theorem get_set_ne (h : ¬ b = a) : am_get (am_set σ a c) b = am_get σ b := if_neg h
theorem get_set_eq : am_get (am_set σ a c) a = some c := if_pos rfl
theorem fld_set_ne (h : ¬ b = a) : am_fld (am_set σ a c) b ci k = am_fld σ b ci k := by simp only [am_fld, get_set_ne h]
theorem j_set_ne (h : ¬ b = a) : am_j (am_set σ a c) b = am_j σ b := by simp only [am_j, get_set_ne h]
theorem q_set_ne (h : ¬ b = a) : am_q (am_set σ a c) b = am_q σ b := by simp only [am_q, get_set_ne h]
theorem lv_set_ne (h : ¬ b = a) : am_lv (am_set σ a c) b = am_lv σ b := by simp only [am_lv, get_set_ne h]
theorem nv_set_ne (h : ¬ b = a) : am_nv (am_set σ a c) b = am_nv σ b := by simp only [am_nv, get_set_ne h]
theorem is_set_ne (h : ¬ b = a) : am_is (am_set σ a c) b ci = am_is σ b ci := by simp only [am_is, get_set_ne h]
theorem j_set_eq {f : Nat → Int32} : am_j (am_set σ a (am_ia kd n f)) a = some (kd, n, f) := by simp only [am_j, get_set_eq]
theorem lv_set_eq {f : Nat → Int64} : am_lv (am_set σ a (am_la n f)) a = some (n, f) := by simp only [am_lv, get_set_eq]
theorem q_set_eq {f : Nat → Option Nat} : am_q (am_set σ a (am_qa ci n f)) a = some (ci, n, f) := by simp only [am_q, get_set_eq]
theorem nv_set_i {f : Nat → Int32} : am_nv (am_set σ a (am_ia kd n f)) a = some n := by simp only [am_nv, get_set_eq]
theorem nv_set_l {f : Nat → Int64} : am_nv (am_set σ a (am_la n f)) a = some n := by simp only [am_nv, get_set_eq]
theorem nv_set_q {f : Nat → Option Nat} : am_nv (am_set σ a (am_qa ci n f)) a = some n := by simp only [am_nv, get_set_eq]
theorem get_put_ne (h : ¬ b = a) : am_get (am_put σ a k v) b = am_get σ b := by
  unfold am_put
  split
  · exact get_set_ne h
  · rfl
theorem get_put_eq : am_get (am_put σ a k v) a = match am_get σ a with | some (.inl o) => some (.inl (o.1, o.2.set k v)) | x => x := by
  unfold am_put
  cases h : am_get σ a with
  | none => simp [h]
  | some c =>
    cases c with
    | inl o => simp [get_set_eq]
    | inr o => simp [h]
theorem fld_put_ne (h : ¬ b = a) : am_fld (am_put σ a k v) b ci j = am_fld σ b ci j := by simp only [am_fld, get_put_ne h]
theorem fld_put_k (h : ¬ j = k) : am_fld (am_put σ a k v) b ci j = am_fld σ b ci j := by
  by_cases hb : b = a
  · subst hb
    unfold am_fld
    rw [get_put_eq]
    cases am_get σ b with
    | none => rfl
    | some c =>
      cases c with
      | inl o =>
        have hk : ¬ k = j := fun z => h z.symm
        simp [List.getElem?_set, hk]
      | inr o => rfl
  · exact fld_put_ne hb
theorem fld_put_eq (h : am_fld σ a ci k = some w) : am_fld (am_put σ a k v) a ci k = some v := by
  unfold am_fld at h ⊢
  rw [get_put_eq]
  cases hg : am_get σ a with
  | none => rw [hg] at h; cases h
  | some c =>
    cases c with
    | inr o => rw [hg] at h; cases h
    | inl o =>
      rw [hg] at h
      dsimp only at h ⊢
      by_cases ho : o.1 = ci
      · rw [if_pos ho] at h ⊢
        have hl : k < o.2.length := (List.getElem?_eq_some_iff.mp h).1
        simp [hl]
      · rw [if_neg ho] at h; cases h
theorem j_put : am_j (am_put σ a k v) b = am_j σ b := by
  by_cases hb : b = a
  · subst hb
    unfold am_j
    rw [get_put_eq]
    cases am_get σ b with
    | none => rfl
    | some c => cases c <;> rfl
  · simp only [am_j, get_put_ne hb]
theorem q_put : am_q (am_put σ a k v) b = am_q σ b := by
  by_cases hb : b = a
  · subst hb
    unfold am_q
    rw [get_put_eq]
    cases am_get σ b with
    | none => rfl
    | some c => cases c <;> rfl
  · simp only [am_q, get_put_ne hb]
theorem lv_put : am_lv (am_put σ a k v) b = am_lv σ b := by
  by_cases hb : b = a
  · subst hb
    unfold am_lv
    rw [get_put_eq]
    cases am_get σ b with
    | none => rfl
    | some c => cases c <;> rfl
  · simp only [am_lv, get_put_ne hb]
theorem nv_put : am_nv (am_put σ a k v) b = am_nv σ b := by
  by_cases hb : b = a
  · subst hb
    unfold am_nv
    rw [get_put_eq]
    cases am_get σ b with
    | none => rfl
    | some c => cases c <;> rfl
  · simp only [am_nv, get_put_ne hb]
theorem is_put : am_is (am_put σ a k v) b ci = am_is σ b ci := by
  by_cases hb : b = a
  · subst hb
    unfold am_is
    rw [get_put_eq]
    cases am_get σ b with
    | none => rfl
    | some c =>
      cases c with
      | inr o => rfl
      | inl o =>
        refine propext ⟨fun ⟨fs, h⟩ => ?_, fun ⟨fs, h⟩ => ?_⟩
        · cases h; exact ⟨_, rfl⟩
        · cases h; exact ⟨_, rfl⟩
  · simp only [am_is, get_put_ne hb]
theorem put_1 : (am_put σ a k v).1 = σ.1 := by
  unfold am_put
  split <;> rfl
theorem put_2 : (am_put σ a k v).2.1 = σ.2.1 := by
  unfold am_put
  split <;> rfl
theorem set_1 : (am_set σ a c).1 = σ.1 := rfl
theorem set_2 : (am_set σ a c).2.1 = σ.2.1 := rfl
theorem is_of_fld (h : am_fld σ a ci k = some v) : am_is σ a ci := by
  unfold am_fld at h
  split at h
  · rename_i o ho
    split at h
    · rename_i hc
      exact ⟨o.2, by rw [ho, ← hc]⟩
    · cases h
  · cases h
theorem nv_of_j {f : Nat → Int32} (h : am_j σ a = some (kd, n, f)) : am_nv σ a = some n := by
  unfold am_j at h
  unfold am_nv
  split at h
  · rename_i o ho
    rw [ho]
    cases h
    rfl
  · cases h
theorem nv_of_lv {f : Nat → Int64} (h : am_lv σ a = some (n, f)) : am_nv σ a = some n := by
  unfold am_lv at h
  unfold am_nv
  split at h
  · rename_i o ho
    rw [ho]
    cases h
    rfl
  · cases h
theorem qv_of_q {f : Nat → Option Nat} (h : am_q σ a = some (ci, n, f)) : am_qv σ ci a = some (n, f) := by
  unfold am_q at h
  unfold am_qv
  split at h
  · rename_i o ho
    rw [ho]
    cases h
    simp
  · cases h
/-! an index that is in range -/
theorem ix_nI {m : Nat} (h : m < n) (hn : n < 2 ^ 31) : am_ix (nI m) n = True := by
  refine eq_true ?_
  exact nI_in h hn
end HP
theorem c2p_n : (am_c2 none = false) = True := eq_true rfl
theorem c2p_i (x : Int32) : (am_c2 (some (.int x)) = false) = True := eq_true rfl
theorem c2p_r (x : Nat) : (am_c2 (some (.ref x)) = false) = True := eq_true rfl
theorem c2p_z : (am_c2 (some .null) = false) = True := eq_true rfl
theorem bi_narp (b : Bool) : (am_nar .boolean (bi b) = true) = True := eq_true (bi_nar b)
theorem am_nar0p : (am_nar .boolean 0 = true) = True := eq_true rfl
theorem am_nar1p : (am_nar .boolean 1 = true) = True := eq_true rfl
theorem okvp_i (x : Int32) : (am_okv 0 (.int x) = true) = True := eq_true rfl
theorem okvp_l (x : Int64) : (am_okv 1 (.long x) = true) = True := eq_true rfl
theorem okvp_r (x : Nat) : (am_okv 3 (.ref x) = true) = True := eq_true rfl
theorem okvp_n : (am_okv 3 .null = true) = True := eq_true rfl
theorem okvp_z (b : Bool) : (am_okv 2 (.int (bi b)) = true) = True := eq_true (okv_z b)
theorem okvp_z0 : (am_okv 2 (.int 0) = true) = True := eq_true rfl
theorem okvp_z1 : (am_okv 2 (.int 1) = true) = True := eq_true rfl
