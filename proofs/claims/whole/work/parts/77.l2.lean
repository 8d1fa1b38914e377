/-! RELATION, 17: leaves and embargoes; a field that is put -/
theorem lat_last {fm ft fv gt ga' gv : Nat → Int32} {x m d : Int32} : ∀ n, (∀ k, k < n → fm k = ga' k ∧ ft k = gt k ∧ fv k = gv k) → latF fm ft fv x m d n = lastF gt ga' gv x m d n := by
  intro n
  induction n with
  | zero => intro _; rfl
  | succ n ih =>
    intro h
    obtain ⟨a, b, c⟩ := h n (by omega)
    simp only [latF, lastF, a, b, c, ih (fun k hk => h k (by omega))]
/-- a log of the class and its rows in the reference -/
def BL (n N : Nat) (fm ft fv gt gm gv : Nat → Int32) : Prop := n ≤ N ∧ ∀ k, k < n → fm k = gm k ∧ ft k = gt k ∧ fv k = gv k
theorem BL_new {n N : Nat} {fm ft fv gt gm gv : Nat → Int32} (B : BL n N fm ft fv gt gm gv) (hn : n < N) (a b c : Int32) : BL (n + 1) N (upd fm n a) (upd ft n b) (upd fv n c) (upd gt n b) (upd gm n a) (upd gv n c) := by
  refine ⟨by omega, fun k hk => ?_⟩
  by_cases e : k = n
  · subst e
    rw [upd_eq, upd_eq, upd_eq, upd_eq, upd_eq, upd_eq]
    exact ⟨rfl, rfl, rfl⟩
  · rw [upd_ne e, upd_ne e, upd_ne e, upd_ne e, upd_ne e, upd_ne e]
    exact B.2 k (by omega)
theorem gi_put_o {σ : am_H} {a ci k : Nat} {x : Int32} : gi (am_put σ a k (.int x)) a ci k = (am_fld σ a ci k).elim (gi σ a ci k) (fun _ => x) := by
  cases h : am_fld σ a ci k with
  | some w => exact gi_put_eq h
  | none =>
    unfold gi
    rw [fld_put_same, h]
    rfl
theorem Z01_upd {f : Nat → Int32} {n : Nat} {b : Bool} (h : Z01 f) : Z01 (upd f n (bi b)) := by
  intro j
  unfold upd
  split
  · cases b
    · exact Or.inl rfl
    · exact Or.inr rfl
  · exact h j
