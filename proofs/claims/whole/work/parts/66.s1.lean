/-! RELATION, 6: sets of like pictures -/
def ClS (lk : Nat → Nat → Bool) (np : Nat) (S : Nat → Prop) : Prop := ∀ p q, p < np → q < np → S q → lk p q = true → S p
/-- U is the least set with x that is closed under lk -/
def Cls (lk : Nat → Nat → Bool) (np x : Nat) (U : Nat → Prop) : Prop := U x ∧ ClS lk np U ∧ ∀ S : Nat → Prop, S x → ClS lk np S → ∀ j, j < np → U j → S j
theorem Cls_uniq {lk : Nat → Nat → Bool} {np x : Nat} {U V : Nat → Prop} (hU : Cls lk np x U) (hV : Cls lk np x V) : ∀ j, j < np → (U j ↔ V j) := fun j hj => ⟨hU.2.2 V hV.1 hV.2.1 j hj, hV.2.2 U hU.1 hU.2.1 j hj⟩
theorem cntF_lt {a b : Nat → Bool} : ∀ n, (∀ j, j < n → b j = true → a j = true) → (∃ j, j < n ∧ a j = true ∧ b j = false) → cntF b n < cntF a n := by
  intro n
  induction n with
  | zero => intro _ ⟨j, hj, _⟩; exact absurd hj (Nat.not_lt_zero _)
  | succ n ih =>
    intro h1 ⟨j, hj, h2, h3⟩
    have le : ∀ n, (∀ j, j < n → b j = true → a j = true) → cntF b n ≤ cntF a n := by
      intro n
      induction n with
      | zero => intro _; exact Nat.le_refl _
      | succ n ih =>
        intro h
        have i := ih (fun j hj => h j (by omega))
        simp only [cntF]
        by_cases c : b n = true
        · rw [if_pos c, if_pos (h n (by omega) c)]; omega
        · rw [if_neg c]; omega
    simp only [cntF]
    by_cases e : j = n
    · subst e
      have := le j (fun i hi => h1 i (by omega))
      rw [h2, h3]
      simp
      omega
    · have := ih (fun i hi => h1 i (by omega)) ⟨j, by omega, h2, h3⟩
      by_cases c : b n = true
      · rw [if_pos c, if_pos (h1 n (by omega) c)]; omega
      · rw [if_neg c]; omega
theorem cntF_one {a b : Nat → Bool} {o : Nat} (ho : a o = false) : ∀ n, (∀ j, j < n → b j = (a j || decide (j = o))) → cntF b n = cntF a n + (if o < n then 1 else 0) := by
  intro n
  induction n with
  | zero => intro _; rfl
  | succ n ih =>
    intro h
    have i := ih (fun j hj => h j (by omega))
    have hn := h n (by omega)
    simp only [cntF, i, hn]
    by_cases e : n = o
    · subst e
      simp [ho]
    · have : (o < n + 1) ↔ (o < n) := by omega
      simp only [e, decide_false, Bool.or_false, this]
      omega
section SP
variable {lk : Nat → Nat → Bool} {np : Nat}
theorem pass_ok : ∀ c k g mo, k + c ≤ np → (∀ j, (passF lk np k c g mo).1 j = g j ∨ (g j = 0 ∧ (passF lk np k c g mo).1 j = 1)) ∧ (((passF lk np k c g mo).2 = mo ∧ (passF lk np k c g mo).1 = g ∧ ∀ p, k ≤ p → p < k + c → g p = 0 → anyR (nearB lk g p) 0 np = false) ∨ ((passF lk np k c g mo).2 = 1 ∧ ∃ j, j < k + c ∧ g j = 0 ∧ (passF lk np k c g mo).1 j = 1)) ∧ (∀ S : Nat → Prop, ClS lk np S → (∀ j, j < np → ¬ g j = 0 → S j) → ∀ j, j < np → ¬ (passF lk np k c g mo).1 j = 0 → S j) := by
  intro c
  induction c with
  | zero => intro k g mo _; exact ⟨fun j => Or.inl rfl, Or.inl ⟨rfl, rfl, fun p h1 h2 => by omega⟩, fun S _ h => h⟩
  | succ c ih =>
    intro k g mo hk
    simp only [passF]
    by_cases c1 : g k = 0 ∧ anyR (nearB lk g k) 0 np = true
    · rw [if_pos c1]
      obtain ⟨a1, a2, a3⟩ := ih (k + 1) (upd g k 1) 1 (by omega)
      have hk1 : (passF lk np (k + 1) c (upd g k 1) 1).1 k = 1 := by
        rcases a1 k with h | h
        · rw [h, upd_eq]
        · exact h.2
      refine ⟨fun j => ?_, Or.inr ⟨?_, k, by omega, c1.1, hk1⟩, fun S hS hg j hj => ?_⟩
      · by_cases e : j = k
        · subst e
          exact Or.inr ⟨c1.1, hk1⟩
        · have := a1 j
          rw [upd_ne e] at this
          exact this
      · rcases a2 with h | h
        · exact h.1
        · exact h.1
      · refine a3 S hS (fun i hi h => ?_) j hj
        by_cases e : i = k
        · subst e
          obtain ⟨q, -, hq, h2⟩ := (anyR_iff _ _ _).mp c1.2
          simp only [nearB, Bool.and_eq_true, Bool.not_eq_true', decide_eq_false_iff_not] at h2
          exact hS i q hi (by omega) (hg q (by omega) h2.1) h2.2
        · rw [upd_ne e] at h
          exact hg i hi h
    · rw [if_neg c1]
      obtain ⟨a1, a2, a3⟩ := ih (k + 1) g mo (by omega)
      refine ⟨a1, ?_, a3⟩
      rcases a2 with ⟨h1, h2, h3⟩ | ⟨h1, j, h2, h3⟩
      · refine Or.inl ⟨h1, h2, fun p hp1 hp2 hp3 => ?_⟩
        by_cases e : p = k
        · subst e
          cases e2 : anyR (nearB lk g p) 0 np
          · rfl
          · exact absurd ⟨hp3, e2⟩ c1
        · exact h3 p (by omega) (by omega) hp3
      · exact Or.inr ⟨h1, j, by omega, h3⟩
theorem loop_ok : ∀ N g mo, cntF (fun j => decide (g j = 0)) np + 2 ≤ N → (mo = 0 → ∀ p, p < np → g p = 0 → anyR (nearB lk g p) 0 np = false) → ∃ g', loopF lk np N g mo = some g' ∧ (∀ j, ¬ g j = 0 → ¬ g' j = 0) ∧ (∀ p, p < np → g' p = 0 → anyR (nearB lk g' p) 0 np = false) ∧ (∀ S : Nat → Prop, ClS lk np S → (∀ j, j < np → ¬ g j = 0 → S j) → ∀ j, j < np → ¬ g' j = 0 → S j) := by
  intro N
  induction N with
  | zero => intro g mo h; omega
  | succ N ih =>
    intro g mo hN hmo
    simp only [loopF]
    by_cases c : mo = 0
    · rw [if_pos c]
      exact ⟨g, rfl, fun j h => h, hmo c, fun S _ h => h⟩
    · rw [if_neg c]
      obtain ⟨a1, a2, a3⟩ := pass_ok (lk := lk) (np := np) np 0 g 0 (by omega)
      have n1 : ¬ (1 : Int32) = 0 := by decide
      have mono : ∀ j, ¬ g j = 0 → ¬ (passF lk np 0 np g 0).1 j = 0 := by
        intro j h
        rcases a1 j with h2 | h2
        · rw [h2]; exact h
        · exact absurd h2.1 h
      rcases a2 with ⟨h1, h2, h3⟩ | ⟨h1, j, hj, h2, h3⟩
      · rw [h1, h2]
        obtain ⟨M, rfl⟩ : ∃ M, N = M + 1 := ⟨N - 1, by omega⟩
        refine ⟨g, by simp [loopF], fun j h => h, fun p hp h => h3 p (by omega) (by omega) h, fun S _ h => h⟩
      · have lt : cntF (fun j => decide ((passF lk np 0 np g 0).1 j = 0)) np < cntF (fun j => decide (g j = 0)) np := by
          refine cntF_lt np (fun i hi h => ?_) ⟨j, by omega, by simp [h2], by simp [h3]⟩
          simp only [decide_eq_true_eq] at h ⊢
          rcases a1 i with h4 | h4
          · rw [← h4]; exact h
          · exact h4.1
        obtain ⟨g', b1, b2, b3, b4⟩ := ih (passF lk np 0 np g 0).1 (passF lk np 0 np g 0).2 (by omega) (fun z => by rw [h1] at z; exact absurd z n1)
        exact ⟨g', b1, fun i hi => b2 i (mono i hi), b3, fun S hS hg => b4 S hS (a3 S hS hg)⟩
/-- the reference's spreading ends, with the least closed set -/
theorem spr_ok {base : Nat → Int32} {x : Nat} (hnp : np ≤ 40) (hx : x < np) : ∃ N g, loopF lk np N (iniR base (nI x) np) 1 = some g ∧ Cls lk np x (fun j => ¬ g j = 0) := by
  obtain ⟨g, b1, b2, b3, b4⟩ := loop_ok (lk := lk) (np := np) (cntF (fun j => decide (iniR base (nI x) np j = 0)) np + 2) (iniR base (nI x) np) 1 (Nat.le_refl _) (fun z => absurd z (by decide))
  have ini : ∀ j, j < np → (¬ iniR base (nI x) np j = 0 ↔ j = x) := by
    intro j hj
    rw [iniR_eq, if_pos hj]
    by_cases e : nI j = nI x
    · rw [if_pos e]
      exact ⟨fun _ => (nI_eq (by omega) (by omega)).mp e, fun _ => by decide⟩
    · rw [if_neg e]
      exact ⟨fun z => absurd rfl z, fun z => absurd (by rw [z]) e⟩
  refine ⟨_, g, b1, b2 x ((ini x hx).mpr rfl), fun p q hp hq hU hl z => ?_, fun S hS hc j hj => b4 S hc (fun i hi h => by rw [(ini i hi).mp h]; exact hS) j hj⟩
  have := b3 p hp z
  have t : anyR (nearB lk g p) 0 np = true := by
    rw [anyR_iff]
    exact ⟨q, Nat.zero_le _, by omega, by simp [nearB, hU, hl]⟩
  rw [this] at t
  cases t
end SP
