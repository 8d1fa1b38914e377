/-! RELATION, 2: the way up -/
def itP (P : Int32 → Int32) : Nat → Int32 → Int32
  | 0, x => x
  | k + 1, x => itP P k (P x)
theorem itP_add (P : Int32 → Int32) : ∀ a b x, itP P (a + b) x = itP P b (itP P a x) := by
  intro a
  induction a with
  | zero => intro b x; rw [Nat.zero_add]; rfl
  | succ a ih =>
    intro b x
    rw [show a + 1 + b = (a + b) + 1 by omega]
    show itP P (a + b) (P x) = itP P b (itP P a (P x))
    exact ih b (P x)
def Ends (P : Int32 → Int32) (x : Int32) : Prop := ∃ k, itP P k x < 0
def Anc (P : Int32 → Int32) (x t : Int32) : Prop := ∃ k, (∀ j, j ≤ k → ¬ itP P j x < 0) ∧ itP P k x = t
theorem pig : ∀ n d (f : Nat → Nat), (∀ i, i < d → f i < n) → (∀ i j, i < j → j < d → ¬ f i = f j) → d ≤ n := by
  intro n
  induction n with
  | zero =>
    intro d f h1 _
    rcases Nat.eq_zero_or_pos d with h | h
    · omega
    · exact absurd (h1 0 h) (Nat.not_lt_zero _)
  | succ n ih =>
    intro d f h1 h2
    by_cases hx : ∃ a, a < d ∧ f a = n
    · obtain ⟨a, ha, e⟩ := hx
      have := ih (d - 1) (fun k => if k < a then f k else f (k + 1)) (fun k hk => by
        by_cases c : k < a
        · simp only [if_pos c]
          have := h1 k (by omega)
          have ne := h2 k a c ha
          omega
        · simp only [if_neg c]
          have := h1 (k + 1) (by omega)
          have ne := h2 a (k + 1) (by omega) (by omega)
          omega) (fun i j hij hj => by
        by_cases c1 : i < a
        · by_cases c2 : j < a
          · simp only [if_pos c1, if_pos c2]; exact h2 i j hij (by omega)
          · simp only [if_pos c1, if_neg c2]; exact h2 i (j + 1) (by omega) (by omega)
        · have c2 : ¬ j < a := by omega
          simp only [if_neg c1, if_neg c2]; exact h2 (i + 1) (j + 1) (by omega) (by omega))
      omega
    · have := ih d f (fun k hk => by
        have := h1 k hk
        have ne : ¬ f k = n := fun e => hx ⟨k, hk, e⟩
        omega) h2
      omega
theorem no_round {P : Int32 → Int32} {x : Int32} {i j k : Nat} (hij : i < j) (hjk : j ≤ k) (hp : ∀ l, l ≤ k → ¬ itP P l x < 0) (e : itP P i x = itP P j x) : ¬ Ends P x := by
  intro ⟨q, hq⟩
  have : ∀ r q, q ≤ r → itP P q x < 0 → False := by
    intro r
    induction r with
    | zero => intro q hq h; exact hp q (by omega) h
    | succ r ih =>
      intro q hq h
      by_cases c : q ≤ k
      · exact hp q c h
      · refine ih (q - (j - i)) (by omega) ?_
        have e1 : itP P (i + (q - j)) x = itP P (q - j) (itP P i x) := itP_add P i (q - j) x
        have e2 : itP P (j + (q - j)) x = itP P (q - j) (itP P j x) := itP_add P j (q - j) x
        rw [e, ← e2] at e1
        rw [show i + (q - j) = q - (j - i) by omega, show j + (q - j) = q by omega] at e1
        rw [e1]
        exact h
  exact this q q (Nat.le_refl _) hq
theorem short {P : Int32 → Int32} {x : Int32} {n k : Nat} (hn : n < 1000) (he : Ends P x) (hw : ∀ j, j ≤ k → ∃ y, y < n ∧ itP P j x = nI y) : k < n := by
  have hp : ∀ l, l ≤ k → ¬ itP P l x < 0 := by
    intro l hl
    obtain ⟨y, hy, ey⟩ := hw l hl
    rw [ey]
    exact nI_pos (by omega)
  refine pig n (k + 1) (fun j => (itP P j x).toNatClampNeg) (fun j hj => ?_) (fun i j hij hj e => ?_)
  · obtain ⟨y, hy, ey⟩ := hw j (by omega)
    show (itP P j x).toNatClampNeg < n
    rw [ey, nI_clamp (by omega)]
    exact hy
  · obtain ⟨y, hy, ey⟩ := hw i (by omega)
    obtain ⟨z, hz, ez⟩ := hw j (by omega)
    have e' : (itP P i x).toNatClampNeg = (itP P j x).toNatClampNeg := e
    rw [ey, ez, nI_clamp (by omega), nI_clamp (by omega)] at e'
    exact no_round (k := k) hij (by omega) hp (by rw [ey, ez, e']) he
theorem up_some {P : Int32 → Int32} {t : Int32} (ht : ¬ t < 0) : ∀ e x, itP P e x < 0 → ∃ N b, upF P t N x = some b ∧ (b = true ↔ Anc P x t) := by
  have neg : ∀ x, x < 0 → ∃ N b, upF P t N x = some b ∧ (b = true ↔ Anc P x t) := by
    intro x hx
    refine ⟨1, false, ?_, ?_⟩
    · have : ¬ x = t := fun z => ht (z ▸ hx)
      simp [upF, hx, this]
    · exact ⟨fun z => absurd z (by decide), fun ⟨k, h1, h2⟩ => absurd hx (h1 0 (by omega))⟩
  intro e
  induction e with
  | zero => intro x hx; exact neg x hx
  | succ e ih =>
    intro x hx
    by_cases c : x < 0
    · exact neg x c
    · by_cases c2 : x = t
      · have hA : Anc P x t := ⟨0, fun j hj => by
          have : j = 0 := by omega
          subst this
          exact c, c2⟩
        exact ⟨1, true, by simp [upF, c2, ht], ⟨fun _ => hA, fun _ => rfl⟩⟩
      · obtain ⟨N, b, h1, h2⟩ := ih (P x) hx
        refine ⟨N + 1, b, by simp [upF, c, c2, h1], h2.trans ⟨fun ⟨k, a1, a2⟩ => ⟨k + 1, fun j hj => ?_, a2⟩, fun ⟨k, a1, a2⟩ => ?_⟩⟩
        · cases j with
          | zero => exact c
          | succ j => exact a1 j (by omega)
        · cases k with
          | zero => exact absurd a2 c2
          | succ k => exact ⟨k, fun j hj => a1 (j + 1) (by omega), a2⟩
theorem clR_bit {P : Int32 → Int32} {f : Nat → Int32} {n w : Nat} (hn : n ≤ 64) (hf : ∀ y, y < n → f y = P (nI y)) (hw : w < 64) : ∀ s x c, (bitL (clR f n s x c) w = true ↔ bitL c w = true ∨ ∃ k, k < s ∧ (∀ j, j ≤ k → ∃ y, y < n ∧ itP P j x = nI y) ∧ itP P k x = nI w) := by
  intro s
  induction s with
  | zero =>
    intro x c
    simp only [clR]
    exact ⟨Or.inl, fun h => h.elim id (fun ⟨k, hk, _⟩ => absurd hk (Nat.not_lt_zero _))⟩
  | succ s ih =>
    intro x c
    simp only [clR]
    by_cases c1 : ltB x (nI n) = true
    · obtain ⟨y, hy, rfl⟩ := ltB_ix (by omega) c1
      have hcl : (nI y).toNatClampNeg = y := nI_clamp (by omega)
      rw [if_pos c1, hcl, ih, bitL_or, bitL_shl (by omega) hw, hf y hy]
      constructor
      · rintro (h | ⟨k, hk, a1, a2⟩)
        · simp only [Bool.or_eq_true, decide_eq_true_eq] at h
          rcases h with h | h
          · exact Or.inl h
          · exact Or.inr ⟨0, by omega, fun j hj => by
              have : j = 0 := by omega
              subst this
              exact ⟨y, hy, rfl⟩, by rw [h]; rfl⟩
        · refine Or.inr ⟨k + 1, by omega, fun j hj => ?_, a2⟩
          cases j with
          | zero => exact ⟨y, hy, rfl⟩
          | succ j => exact a1 j (by omega)
      · rintro (h | ⟨k, hk, a1, a2⟩)
        · exact Or.inl (by simp [h])
        · cases k with
          | zero =>
            have : y = w := (nI_eq (by omega) (by omega)).mp a2
            exact Or.inl (by simp [this])
          | succ k => exact Or.inr ⟨k, by omega, fun j hj => a1 (j + 1) (by omega), a2⟩
    · rw [if_neg c1]
      refine ⟨Or.inl, fun h => h.elim id (fun ⟨k, hk, a1, _⟩ => ?_)⟩
      obtain ⟨y, hy, ey⟩ := a1 0 (by omega)
      have e : x = nI y := ey
      rw [e, ltB_nI hy (by omega)] at c1
      exact absurd rfl c1
/-- the words' values stay words -/
def Clo (P : Int32 → Int32) (n : Nat) : Prop := ∀ w, w < n → P (nI w) = -1 ∨ ∃ x, x < n ∧ P (nI w) = nI x
theorem itP_in {P : Int32 → Int32} {n : Nat} (hn : n < 1000) (hC : Clo P n) : ∀ k x, (x = -1 ∨ ∃ y, y < n ∧ x = nI y) → (∀ j, j ≤ k → ¬ itP P j x < 0) → ∃ y, y < n ∧ itP P k x = nI y := by
  intro k
  induction k with
  | zero =>
    intro x hx hp
    rcases hx with h | h
    · exact absurd (by rw [show itP P 0 x = x from rfl, h]; decide) (hp 0 (by omega))
    · exact h
  | succ k ih =>
    intro x hx hp
    rcases hx with h | ⟨y, hy, e⟩
    · exact absurd (by rw [show itP P 0 x = x from rfl, h]; decide) (hp 0 (by omega))
    · refine ih (P x) ?_ (fun j hj => hp (j + 1) (by omega))
      rw [e]
      exact hC y hy
theorem chain_bit {P : Int32 → Int32} {f : Nat → Int32} {n w : Nat} (hn : n ≤ 40) (hf : ∀ y, y < n → f y = P (nI y)) (hC : Clo P n) {x : Int32} (hx : x = -1 ∨ ∃ y, y < n ∧ x = nI y) (he : Ends P x) (hw : w < 64) : bitL (clR f n 40 x 0) w = true ↔ (w < n ∧ Anc P x (nI w)) := by
  rw [clR_bit (by omega) hf hw 40 x 0, bitL_0]
  constructor
  · rintro (h | ⟨k, hk, a1, a2⟩)
    · cases h
    · obtain ⟨y, hy, ey⟩ := a1 k (Nat.le_refl _)
      have : w = y := (nI_eq (by omega) (by omega)).mp (a2.symm.trans ey)
      refine ⟨by omega, k, fun j hj => ?_, a2⟩
      obtain ⟨z, hz, ez⟩ := a1 j hj
      rw [ez]
      exact nI_pos (by omega)
  · rintro ⟨-, k, a1, a2⟩
    have a3 : ∀ j, j ≤ k → ∃ y, y < n ∧ itP P j x = nI y := fun j hj => itP_in (by omega) hC j x hx (fun l hl => a1 l (by omega))
    have := short (by omega) he a3
    exact Or.inr ⟨k, by omega, a3, a2⟩
theorem ends_upd {P P' : Int32 → Int32} {a : Int32} (hP : ∀ y, ¬ y = a → P' y = P y) (ha : Ends P' (P' a)) : ∀ e x, itP P e x < 0 → Ends P' x := by
  intro e
  induction e with
  | zero => intro x hx; exact ⟨0, hx⟩
  | succ e ih =>
    intro x hx
    by_cases c : x = a
    · obtain ⟨k, hk⟩ := ha
      exact ⟨k + 1, by rw [c]; exact hk⟩
    · have i := ih (P x) hx
      obtain ⟨k, hk⟩ := i
      exact ⟨k + 1, by show itP P' k (P' x) < 0; rw [hP x c]; exact hk⟩
theorem ends_same {P P' : Int32 → Int32} {a : Int32} (hP : ∀ y, ¬ y = a → P' y = P y) : ∀ e x, itP P e x < 0 → ¬ Anc P x a → Ends P' x := by
  intro e
  induction e with
  | zero => intro x hx _; exact ⟨0, hx⟩
  | succ e ih =>
    intro x hx hA
    by_cases c0 : x < 0
    · exact ⟨0, c0⟩
    · have c : ¬ x = a := fun z => hA ⟨0, fun j hj => by
        have : j = 0 := by omega
        subst this
        exact c0, z⟩
      obtain ⟨k, hk⟩ := ih (P x) hx (fun ⟨k, a1, a2⟩ => hA ⟨k + 1, fun j hj => by
        cases j with
        | zero => exact c0
        | succ j => exact a1 j (by omega), a2⟩)
      exact ⟨k + 1, by show itP P' k (P' x) < 0; rw [hP x c]; exact hk⟩
theorem treR_bit {f : Nat → Int32} {n w : Nat} {x : Int32} (hw : w < 64) : ∀ k, k ≤ 64 → bitL (treR f n x k) w = (decide (w < k) && hldB (clR f n 40 (nI w) 0) x) := by
  intro k
  induction k with
  | zero => intro _; simp [treR, bitL_0]
  | succ k ih =>
    intro hk
    have ih := ih (by omega)
    simp only [treR]
    by_cases c : hldB (clR f n 40 (nI k) 0) x = true
    · rw [if_pos c, bitL_or, ih, bitL_shl (by omega) hw]
      by_cases e : w = k
      · subst e
        simp [c]
      · have : (w < k + 1) ↔ (w < k) := by omega
        simp [e, this]
    · rw [if_neg c, ih]
      have c' : hldB (clR f n 40 (nI k) 0) x = false := by simpa using c
      by_cases e : w = k
      · subst e
        simp [c']
      · have : (w < k + 1) ↔ (w < k) := by omega
        simp [this]
