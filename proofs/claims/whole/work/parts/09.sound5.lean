/-! THE PLAIN MACHINE IS SOUND, 5: calls and runs -/
theorem am_stp_inl {dfl : List (List Value)} {rt : Option FieldType} {i : Instr} {K : am_K} {pc pc' : Nat} {ls ls' : am_L} {st st' : List Value} {σ σ' : am_H} (h : am_stp dfl rt i K pc ls st σ = some (.inl (pc', ls', st', σ'))) :
    (am_pure i st = some st' ∧ pc' = pc + am_len i ∧ ls' = ls ∧ σ' = σ) ∨ (am_loc i ls st = some (ls', st') ∧ pc' = pc + am_len i ∧ σ' = σ) ∨ (am_br i K pc st = some (pc', st') ∧ ls' = ls ∧ σ' = σ) ∨ (am_rd i K st σ = some st' ∧ pc' = pc + am_len i ∧ ls' = ls ∧ σ' = σ) ∨ (am_wr dfl i K st σ = some (st', σ') ∧ pc' = pc + am_len i ∧ ls' = ls) := by
  unfold am_stp at h
  split at h
  · rename_i hq; cases h; exact Or.inl ⟨hq, rfl, rfl, rfl⟩
  · split at h
    · rename_i hq; cases h; exact Or.inr (Or.inl ⟨hq, rfl, rfl⟩)
    · split at h
      · rename_i hq; cases h; exact Or.inr (Or.inr (Or.inl ⟨hq, rfl, rfl⟩))
      · split at h
        · rename_i hq; cases h; exact Or.inr (Or.inr (Or.inr (Or.inl ⟨hq, rfl, rfl, rfl⟩)))
        · split at h
          · rename_i hq; cases h; exact Or.inr (Or.inr (Or.inr (Or.inr ⟨hq, rfl, rfl⟩)))
          · split at h
            · cases h
            · cases hr : am_rt rt i st with
              | none => rw [hr] at h; cases h
              | some r => rw [hr] at h; cases h
theorem am_stp_call {dfl : List (List Value)} {rt : Option FieldType} {i : Instr} {K : am_K} {pc : Nat} {ls : am_L} {st : List Value} {σ : am_H} {q : Nat × List Value × List Value} (h : am_stp dfl rt i K pc ls st σ = some (.inr (.inl q))) : am_cl i K st σ = some q := by
  unfold am_stp at h
  split at h
  · cases h
  · split at h
    · cases h
    · split at h
      · cases h
      · split at h
        · cases h
        · split at h
          · cases h
          · split at h
            · rename_i hq; cases h; exact hq
            · cases hr : am_rt rt i st with
              | none => rw [hr] at h; cases h
              | some r => rw [hr] at h; cases h
theorem am_stp_ret {dfl : List (List Value)} {rt : Option FieldType} {i : Instr} {K : am_K} {pc : Nat} {ls : am_L} {st : List Value} {σ : am_H} {r : Option Value} (h : am_stp dfl rt i K pc ls st σ = some (.inr (.inr r))) : am_rt rt i st = some r := by
  unfold am_stp at h
  split at h
  · cases h
  · split at h
    · cases h
    · split at h
      · cases h
      · split at h
        · cases h
        · split at h
          · cases h
          · split at h
            · cases h
            · cases hr : am_rt rt i st with
              | none => rw [hr] at h; cases h
              | some r => rw [hr] at h; cases h; rfl
theorem am_wr_mono {dfl : List (List Value)} {i : Instr} {K : am_K} {st : List Value} {σ : am_H} {q : List Value × am_H} (h : am_wr dfl i K st σ = some q) : σ.1 ≤ q.2.1 ∧ σ.2.1 ≤ q.2.2.1 := by
  unfold am_wr at h
  repeat' (split at h)
  all_goals first
    | (cases h; done)
    | (cases h; exact ⟨Nat.le_refl _, Nat.le_refl _⟩)
    | (cases h; exact ⟨Nat.le_succ _, Nat.le_add_right _ _⟩)
theorem am_stp_mono {dfl : List (List Value)} {rt : Option FieldType} {i : Instr} {K : am_K} {pc pc' : Nat} {ls ls' : am_L} {st st' : List Value} {σ σ' : am_H} (h : am_stp dfl rt i K pc ls st σ = some (.inl (pc', ls', st', σ'))) : σ.1 ≤ σ'.1 ∧ σ.2.1 ≤ σ'.2.1 := by
  rcases am_stp_inl h with ⟨-, -, -, rfl⟩ | ⟨-, -, rfl⟩ | ⟨-, -, rfl⟩ | ⟨-, -, -, rfl⟩ | ⟨h, -, -⟩
  · exact ⟨Nat.le_refl _, Nat.le_refl _⟩
  · exact ⟨Nat.le_refl _, Nat.le_refl _⟩
  · exact ⟨Nat.le_refl _, Nat.le_refl _⟩
  · exact ⟨Nat.le_refl _, Nat.le_refl _⟩
  · exact am_wr_mono h
/-- one row of a run -/
theorem am_run_step {dfl : List (List Value)} {ms : List am_M} {f j pc : Nat} {ls : am_L} {st : List Value} {σ σ' : am_H} {r : Option Value} (h : am_run dfl ms (f + 1) j pc ls st σ = some (r, σ')) :
    ∃ M i L K, ms[j]? = some M ∧ am_at M.2.2.2.2.1 pc = some (i, L, K) ∧
      ((∃ pc' ls' st' σ1, am_stp dfl M.2.2.2.1 i K pc ls st σ = some (.inl (pc', ls', st', σ1)) ∧ am_run dfl ms f j pc' ls' st' σ1 = some (r, σ')) ∨
       (∃ j' as st' M' r1 σ1, am_stp dfl M.2.2.2.1 i K pc ls st σ = some (.inr (.inl (j', as, st'))) ∧ ms[j']? = some M' ∧ (am_in M'.2.2.1 as).length = M'.2.2.1 ∧ am_run dfl ms f j' 0 (am_in M'.2.2.1 as) [] σ = some (r1, σ1) ∧ am_run dfl ms f j (pc + 3) ls (r1.toList ++ st') σ1 = some (r, σ')) ∨
       (am_stp dfl M.2.2.2.1 i K pc ls st σ = some (.inr (.inr r)) ∧ σ' = σ)) := by
  simp only [am_run] at h
  split at h
  · cases h
  · rename_i M hM
    split at h
    · cases h
    · rename_i i L K hat
      refine ⟨M, i, L, K, hM, hat, ?_⟩
      split at h
      · cases h
      · rename_i pc' ls' st' σ1 hs
        exact Or.inl ⟨pc', ls', st', σ1, hs, h⟩
      · rename_i j' as st' hs
        split at h
        · cases h
        · rename_i M' hM'
          split at h
          · rename_i hlen
            split at h
            · cases h
            · rename_i r1 σ1 hr1
              exact Or.inr (Or.inl ⟨j', as, st', M', r1, σ1, hs, hM', hlen, hr1, h⟩)
          · cases h
      · rename_i r0 hs
        cases h
        exact Or.inr (Or.inr ⟨hs, rfl⟩)
theorem am_run_mono {dfl : List (List Value)} {ms : List am_M} : ∀ (f j pc : Nat) (ls : am_L) (st : List Value) (σ σ' : am_H) (r : Option Value), am_run dfl ms f j pc ls st σ = some (r, σ') → σ.1 ≤ σ'.1 ∧ σ.2.1 ≤ σ'.2.1 := by
  intro f
  induction f with
  | zero => intro j pc ls st σ σ' r h; cases h
  | succ f ih =>
    intro j pc ls st σ σ' r h
    obtain ⟨M, i, L, K, -, -, h1⟩ := am_run_step h
    rcases h1 with ⟨pc', ls', st', σ1, h2, h3⟩ | ⟨j', as, st', M', r1, σ1, -, -, -, h2, h3⟩ | ⟨-, rfl⟩
    · have a1 := am_stp_mono h2
      have a2 := ih _ _ _ _ _ _ _ h3
      omega
    · have a1 := ih _ _ _ _ _ _ _ h2
      have a2 := ih _ _ _ _ _ _ _ h3
      omega
    · exact ⟨Nat.le_refl _, Nat.le_refl _⟩
theorem am_at_in {code : List am_E} {pc : Nat} {q : Instr × Nat × am_K} (h : am_at code pc = some q) : (pc, q) ∈ code := by
  induction code with
  | nil => cases h
  | cons a r ih =>
    simp only [am_at] at h
    split at h
    · rename_i hp
      cases h
      have : a.1 = pc := by simpa using hp
      rw [← this]
      exact List.mem_cons_self
    · exact List.mem_cons_of_mem _ (ih h)
theorem am_ck_cases {ms : List am_M} {own : String} {init : Bool} {nf nl pc L : Nat} {i : Instr} {K : am_K} (hc : (match i with | .tableswitch _ _ _ _ => true | .lookupswitch _ ps => am_sorted ps | i => L == am_len i && am_ckI ms own init nf nl pc i K) = true) :
    (L = am_len i ∧ am_ckI ms own init nf nl pc i K = true) ∨ (∃ d lo hi o, i = .tableswitch d lo hi o) ∨ ∃ d ps, i = .lookupswitch d ps := by
  cases i
  case tableswitch d lo hi o => exact Or.inr (Or.inl ⟨d, lo, hi, o, rfl⟩)
  case lookupswitch d ps => exact Or.inr (Or.inr ⟨d, ps, rfl⟩)
  all_goals (left; simp only [Bool.and_eq_true, beq_iff_eq] at hc; exact hc)
/-! entry -/
def am_sl (as : List Value) : am_L := as.flatMap (fun v => if v.category = 2 then [some v, none] else [some v])
theorem am_in_eq (n : Nat) (as : List Value) : am_in n as = am_sl as ++ List.replicate (n - (am_sl as).length) none := rfl
theorem am_sl_cv {ad : Nat → Nat} {vF : Value} (hF : vF.category = 1) (as : List Value) : (am_sl as).length = (lg_sl (as.map (am_cv ad vF))).length ∧ ∀ (k : Nat) (v : Value), (am_sl as)[k]? = some (some v) → (lg_sl (as.map (am_cv ad vF)))[k]? = some (.val (am_cv ad vF v)) := by
  induction as with
  | nil => exact ⟨rfl, fun k v h => by simp [am_sl] at h⟩
  | cons a as ih =>
    obtain ⟨i1, i2⟩ := ih
    by_cases hc : a.category = 2
    · have e1 : am_sl (a :: as) = [some a, none] ++ am_sl as := by simp [am_sl, hc]
      have e2 : lg_sl ((a :: as).map (am_cv ad vF)) = [.val (am_cv ad vF a), .second] ++ lg_sl (as.map (am_cv ad vF)) := by simp [lg_sl, am_cv_cat hF, hc]
      rw [e1, e2]
      refine ⟨by simp [i1], fun k v h => ?_⟩
      match k, h with
      | 0, h => cases h; rfl
      | 1, h => cases h
      | k + 2, h => exact i2 k v h
    · have e1 : am_sl (a :: as) = [some a] ++ am_sl as := by simp [am_sl, hc]
      have e2 : lg_sl ((a :: as).map (am_cv ad vF)) = [.val (am_cv ad vF a)] ++ lg_sl (as.map (am_cv ad vF)) := by simp [lg_sl, am_cv_cat hF, hc]
      rw [e1, e2]
      refine ⟨by simp [i1], fun k v h => ?_⟩
      match k, h with
      | 0, h => cases h; rfl
      | k + 1, h => exact i2 k v h
theorem am_in_lR {ad : Nat → Nat} {vF : Value} (hF : vF.category = 1) {n : Nat} {as : List Value} (hn : (am_in n as).length = n) :
    am_lR ad vF n (am_in n as) ((lg_sl (as.map (am_cv ad vF)) ++ List.replicate (n - (lg_sl (as.map (am_cv ad vF))).length) Slot.unset).toArray) := by
  obtain ⟨h1, h2⟩ := am_sl_cv (ad := ad) hF as
  have hle : (lg_sl (as.map (am_cv ad vF))).length ≤ n := by
    rw [am_in_eq] at hn
    rw [← h1]
    simp at hn
    omega
  have he := lv_entry (as.map (am_cv ad vF)) hle
  refine ⟨hn, he.1, he.2.1, fun k v hk => ?_⟩
  rw [am_in_eq] at hk
  have hkl : k < (am_sl as).length := by
    rcases Nat.lt_or_ge k (am_sl as).length with h | h
    · exact h
    · rw [List.getElem?_append_right h] at hk
      have := List.eq_of_mem_replicate (List.mem_of_getElem? hk)
      cases this
  rw [List.getElem?_append_left hkl] at hk
  have h3 := h2 k v hk
  rw [List.getElem?_toArray, List.getElem?_append_left (by rw [← h1]; exact hkl)]
  exact h3
