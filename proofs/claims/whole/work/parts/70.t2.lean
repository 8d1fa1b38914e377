/-! RELATION, 10: words as tokens -/
def valN (L : Nat → Nat) : Nat → Nat
  | 0 => 0
  | k + 1 => valN L k * 128 + L k
theorem valN_lt {L : Nat → Nat} (hL : ∀ k, k < 4 → L k < 128) : ∀ k, k ≤ 4 → valN L k < 128 ^ k := by
  intro k
  induction k with
  | zero => intro _; exact Nat.zero_lt_one
  | succ k ih =>
    intro hk
    have := ih (by omega)
    have := hL k (by omega)
    rw [Nat.pow_succ]
    simp only [valN]
    omega
theorem lenR_ge (T : Nat → Int32) : ∀ n j, j ≤ lenR T n j := by
  intro n
  induction n with
  | zero => intro j; exact Nat.le_refl _
  | succ n ih =>
    intro j
    simp only [lenR]
    split
    · have := ih (j + 1)
      omega
    · exact Nat.le_refl _
theorem lenR_all (T : Nat → Int32) : ∀ n j k, j ≤ k → k < lenR T n j → ltr (T k) = true := by
  intro n
  induction n with
  | zero => intro j k h1 h2; simp only [lenR] at h2; omega
  | succ n ih =>
    intro j k h1 h2
    simp only [lenR] at h2
    split at h2
    · rename_i c
      by_cases e : k = j
      · rw [e]; exact c
      · exact ih (j + 1) k (by omega) h2
    · omega
theorem let_val {T : Nat → Int32} {p : Nat} {L : Nat → Nat} (hp : p < 1000) : ∀ n j, p ≤ j → lenR T n j - p ≤ 4 → (∀ k, p + k < lenR T n j → T (p + k) = nI (L k) ∧ L k < 128) → (letR T (nI p) n (nI (valN L (j - p))) j).1 = nI (valN L (lenR T n j - p)) := by
  intro n
  induction n with
  | zero => intro j _ _ _; rfl
  | succ n ih =>
    intro j hj hle hL
    simp only [letR, lenR] at hle hL ⊢
    by_cases c : ltr (T j) = true
    · rw [if_pos c] at hle hL ⊢
      rw [if_pos c]
      have hge := lenR_ge T n (j + 1)
      obtain ⟨k, rfl⟩ : ∃ k, j = p + k := ⟨j - p, by omega⟩
      obtain ⟨e1, e2⟩ := hL k (by omega)
      have e4 : (4 : Int32) = nI 4 := by decide
      have lt : nI (p + k) - nI p < 4 := by
        rw [xI_sub (by omega), e4]
        exact nI_lt (by omega) (by omega)
      rw [if_pos lt, e1, show p + k - p = k by omega]
      have vb : valN L k < 2 ^ 24 := by
        have h1 : ∀ i, i ≤ k → valN L i < 128 ^ i := by
          intro i
          induction i with
          | zero => intro _; exact Nat.zero_lt_one
          | succ i ih2 =>
            intro hi
            have a := ih2 (by omega)
            have b := (hL i (by omega)).2
            rw [Nat.pow_succ]
            simp only [valN]
            omega
        have h2 := h1 k (Nat.le_refl _)
        have h3 : (128 : Nat) ^ k ≤ 128 ^ 3 := Nat.pow_le_pow_right (by decide) (by omega)
        have h4 : (128 : Nat) ^ 3 ≤ 2 ^ 24 := by decide
        omega
      rw [shl_or vb e2]
      have := ih (p + k + 1) (by omega) hle hL
      rw [show p + k + 1 - p = k + 1 by omega] at this
      exact this
    · rw [if_neg c]
      rw [if_neg c]
theorem spL_iff (T : Nat → Int32) (p : Nat) (g : Nat → Int32) : ∀ c k, spL T p g k c = true ↔ ∀ j, k ≤ j → j < k + c → T (p + j) = g j := by
  intro c
  induction c with
  | zero => intro k; exact ⟨fun _ j h1 h2 => by omega, fun _ => rfl⟩
  | succ c ih =>
    intro k
    simp only [spL]
    by_cases e : T (p + k) = g k
    · rw [if_pos e, ih]
      exact ⟨fun h j h1 h2 => by
        by_cases e2 : j = k
        · rw [e2]; exact e
        · exact h j (by omega) (by omega), fun h j h1 h2 => h j (by omega) (by omega)⟩
    · rw [if_neg e]
      exact ⟨fun h => (by cases h), fun h => absurd (h k (Nat.le_refl _) (by omega)) e⟩
theorem spB_iff {T : Nat → Int32} {s : RS} {n : Nat} {L G : Nat → Nat} {g : Nat → Int32} (hk : s.ki = 1) (hpq : s.st < s.be) (hq : s.be < 1000) (hn : n < 100) (hL : ∀ k, k < s.be - s.st → T (s.st + k) = nI (L k) ∧ L k < 128) (hG : ∀ k, k < n → g k = nI (G k) ∧ G k < 128) : spB T s n g = true ↔ (s.be - s.st = n ∧ ∀ k, k < n → L k = G k) := by
  unfold spB
  simp only [hk, decide_true, Bool.true_and, Bool.and_eq_true, decide_eq_true_eq]
  rw [xI_sub (by omega), nI_eq (by omega) (by omega), spL_iff]
  constructor
  · rintro ⟨h1, h2⟩
    refine ⟨h1, fun k hkn => ?_⟩
    have h3 := h2 k (Nat.zero_le _) (by omega)
    obtain ⟨a, b⟩ := hL k (by omega)
    obtain ⟨c, d⟩ := hG k hkn
    rw [a, c] at h3
    exact (nI_eq (by omega) (by omega)).mp h3
  · rintro ⟨h1, h2⟩
    refine ⟨h1, fun j _ hj => ?_⟩
    rw [(hL j (by omega)).1, (hG j (by omega)).1, h2 j (by omega)]
theorem all4 {L G : Nat → Nat} : (∀ k, k < 4 → L k = G k) ↔ (L 0 = G 0 ∧ L 1 = G 1 ∧ L 2 = G 2 ∧ L 3 = G 3) :=
  ⟨fun h => ⟨h 0 (by omega), h 1 (by omega), h 2 (by omega), h 3 (by omega)⟩, fun ⟨a, b, c, d⟩ k hk => by
    rcases (show k = 0 ∨ k = 1 ∨ k = 2 ∨ k = 3 by omega) with e | e | e | e <;> rw [e] <;> assumption⟩
theorem all3 {L G : Nat → Nat} : (∀ k, k < 3 → L k = G k) ↔ (L 0 = G 0 ∧ L 1 = G 1 ∧ L 2 = G 2) :=
  ⟨fun h => ⟨h 0 (by omega), h 1 (by omega), h 2 (by omega)⟩, fun ⟨a, b, c⟩ k hk => by
    rcases (show k = 0 ∨ k = 1 ∨ k = 2 by omega) with e | e | e <;> rw [e] <;> assumption⟩
def gN (i j : Nat) : Nat := (([[108, 97, 110, 100], [117, 115, 101], [100, 97, 121, 115], [109, 111, 115, 116], [110, 111, 116]] : List (List Nat)).getD i []).getD j 0
theorem gS_N : (∀ k : Fin 4, gS 0 k.1 = nI (gN 0 k.1) ∧ gN 0 k.1 < 128) ∧ (∀ k : Fin 3, gS 1 k.1 = nI (gN 1 k.1) ∧ gN 1 k.1 < 128) ∧ (∀ k : Fin 4, gS 2 k.1 = nI (gN 2 k.1) ∧ gN 2 k.1 < 128) ∧ (∀ k : Fin 4, gS 3 k.1 = nI (gN 3 k.1) ∧ gN 3 k.1 < 128) ∧ (∀ k : Fin 3, gS 4 k.1 = nI (gN 4 k.1) ∧ gN 4 k.1 < 128) := by decide +kernel
theorem dig4 {a b c d a' b' c' d' : Nat} (h1 : b < 128) (h2 : c < 128) (h3 : d < 128) (h4 : b' < 128) (h5 : c' < 128) (h6 : d' < 128) : ((a * 128 + b) * 128 + c) * 128 + d = ((a' * 128 + b') * 128 + c') * 128 + d' ↔ a = a' ∧ b = b' ∧ c = c' ∧ d = d' := by omega
theorem dig3 {b c d b' c' d' : Nat} (h2 : c < 128) (h3 : d < 128) (h5 : c' < 128) (h6 : d' < 128) : (b * 128 + c) * 128 + d = (b' * 128 + c') * 128 + d' ↔ b = b' ∧ c = c' ∧ d = d' := by omega
theorem wrdN4 {a b c d : Nat} (ha : 65 ≤ a) (hb : b < 128) (hc : c < 128) (hd : d < 128) : wrdN (((a * 128 + b) * 128 + c) * 128 + d) = if a = 108 ∧ b = 97 ∧ c = 110 ∧ d = 100 then 4 else if a = 100 ∧ b = 97 ∧ c = 121 ∧ d = 115 then 6 else if a = 109 ∧ b = 111 ∧ c = 115 ∧ d = 116 then 7 else 3 := by
  have n1 : ¬ ((a * 128 + b) * 128 + c) * 128 + d = (117 * 128 + 115) * 128 + 101 := by omega
  have n2 : ¬ ((a * 128 + b) * 128 + c) * 128 + d = (110 * 128 + 111) * 128 + 116 := by omega
  unfold wrdN
  simp only [dig4 hb hc hd (show 97 < 128 by decide) (show 110 < 128 by decide) (show 100 < 128 by decide), dig4 hb hc hd (show 97 < 128 by decide) (show 121 < 128 by decide) (show 115 < 128 by decide), dig4 hb hc hd (show 111 < 128 by decide) (show 115 < 128 by decide) (show 116 < 128 by decide), if_neg n1, if_neg n2]
theorem wrdN3 {b c d : Nat} (hb : b < 128) (hc : c < 128) (hd : d < 128) : wrdN ((b * 128 + c) * 128 + d) = if b = 117 ∧ c = 115 ∧ d = 101 then 5 else if b = 110 ∧ c = 111 ∧ d = 116 then 8 else 3 := by
  have n1 : ¬ (b * 128 + c) * 128 + d = ((108 * 128 + 97) * 128 + 110) * 128 + 100 := by omega
  have n2 : ¬ (b * 128 + c) * 128 + d = ((100 * 128 + 97) * 128 + 121) * 128 + 115 := by omega
  have n3 : ¬ (b * 128 + c) * 128 + d = ((109 * 128 + 111) * 128 + 115) * 128 + 116 := by omega
  unfold wrdN
  simp only [dig3 hc hd (show 115 < 128 by decide) (show 101 < 128 by decide), dig3 hc hd (show 111 < 128 by decide) (show 116 < 128 by decide), if_neg n1, if_neg n2, if_neg n3]
theorem wrdN2 {v : Nat} (h : v < 16384) : wrdN v = 3 := by
  unfold wrdN
  rw [if_neg (by omega), if_neg (by omega), if_neg (by omega), if_neg (by omega), if_neg (by omega)]
/-- a word: the class's clause, and the reference's token -/
theorem word_tok {T : Nat → Int32} {s : RS} {L : Nat → Nat} (hk : s.ki = 1) (hpq : s.st < s.be) (hq : s.be < 1000) (hL : ∀ k, k < s.be - s.st → T (s.st + k) = nI (L k) ∧ 65 ≤ L k ∧ L k ≤ 122) : (∃ c, c < 5 ∧ clH T s = nI c ∧ s.be - s.st ≤ 4 ∧ wrdN (valN L (s.be - s.st)) = c + 4) ∨ (clH T s = -1 ∧ (s.be - s.st ≤ 4 → wrdN (valN L (s.be - s.st)) = 3)) := by
  have hL' : ∀ k, k < s.be - s.st → T (s.st + k) = nI (L k) ∧ L k < 128 := fun k hk => ⟨(hL k hk).1, by have := (hL k hk).2.2; omega⟩
  obtain ⟨g0, g1, g2, g3, g4⟩ := gS_N
  have s0 := spB_iff (G := gN 0) (g := gS 0) (n := 4) hk hpq hq (by decide) hL' (fun k h => g0 ⟨k, h⟩)
  have s1 := spB_iff (G := gN 1) (g := gS 1) (n := 3) hk hpq hq (by decide) hL' (fun k h => g1 ⟨k, h⟩)
  have s2 := spB_iff (G := gN 2) (g := gS 2) (n := 4) hk hpq hq (by decide) hL' (fun k h => g2 ⟨k, h⟩)
  have s3 := spB_iff (G := gN 3) (g := gS 3) (n := 4) hk hpq hq (by decide) hL' (fun k h => g3 ⟨k, h⟩)
  have s4 := spB_iff (G := gN 4) (g := gS 4) (n := 3) hk hpq hq (by decide) hL' (fun k h => g4 ⟨k, h⟩)
  rw [all4] at s0 s2 s3
  rw [all3] at s1 s4
  have n0 : gN 0 0 = 108 ∧ gN 0 1 = 97 ∧ gN 0 2 = 110 ∧ gN 0 3 = 100 := by decide
  have n1 : gN 1 0 = 117 ∧ gN 1 1 = 115 ∧ gN 1 2 = 101 := by decide
  have n2 : gN 2 0 = 100 ∧ gN 2 1 = 97 ∧ gN 2 2 = 121 ∧ gN 2 3 = 115 := by decide
  have n3 : gN 3 0 = 109 ∧ gN 3 1 = 111 ∧ gN 3 2 = 115 ∧ gN 3 3 = 116 := by decide
  have n4 : gN 4 0 = 110 ∧ gN 4 1 = 111 ∧ gN 4 2 = 116 := by decide
  rw [n0.1, n0.2.1, n0.2.2.1, n0.2.2.2] at s0
  rw [n1.1, n1.2.1, n1.2.2] at s1
  rw [n2.1, n2.2.1, n2.2.2.1, n2.2.2.2] at s2
  rw [n3.1, n3.2.1, n3.2.2.1, n3.2.2.2] at s3
  rw [n4.1, n4.2.1, n4.2.2] at s4
  have no : ∀ {b : Bool} {P : Prop}, (b = true ↔ P) → ¬ P → b = false := by
    intro b P h hp
    cases b
    · rfl
    · exact absurd (h.mp rfl) hp
  unfold clH
  generalize spB T s 4 (gS 0) = b0 at *
  generalize spB T s 3 (gS 1) = b1 at *
  generalize spB T s 4 (gS 2) = b2 at *
  generalize spB T s 4 (gS 3) = b3 at *
  generalize spB T s 3 (gS 4) = b4 at *
  generalize s.be - s.st = m at *
  by_cases c4 : m = 4
  · subst c4
    have l0 := (hL 0 (by decide)).2
    have l1 := (hL 1 (by decide)).2.2
    have l2 := (hL 2 (by decide)).2.2
    have l3 := (hL 3 (by decide)).2.2
    have ev : valN L 4 = ((L 0 * 128 + L 1) * 128 + L 2) * 128 + L 3 := by simp only [valN, Nat.zero_mul, Nat.zero_add]
    have f1 : b1 = false := no s1 (fun z => absurd z.1 (by decide))
    have f4 : b4 = false := no s4 (fun z => absurd z.1 (by decide))
    rw [ev, wrdN4 l0.1 (Nat.lt_of_le_of_lt l1 (by decide)) (Nat.lt_of_le_of_lt l2 (by decide)) (Nat.lt_of_le_of_lt l3 (by decide))]
    subst f1 f4
    by_cases d0 : L 0 = 108 ∧ L 1 = 97 ∧ L 2 = 110 ∧ L 3 = 100
    · have t : b0 = true := s0.mpr ⟨rfl, d0⟩
      exact Or.inl ⟨0, by decide, by rw [t]; rfl, Nat.le_refl _, by rw [if_pos d0]⟩
    · have t0 : b0 = false := no s0 (fun z => d0 z.2)
      rw [if_neg d0]
      by_cases d2 : L 0 = 100 ∧ L 1 = 97 ∧ L 2 = 121 ∧ L 3 = 115
      · have t : b2 = true := s2.mpr ⟨rfl, d2⟩
        exact Or.inl ⟨2, by decide, by rw [t0, t]; rfl, Nat.le_refl _, by rw [if_pos d2]⟩
      · have t2 : b2 = false := no s2 (fun z => d2 z.2)
        rw [if_neg d2]
        by_cases d3 : L 0 = 109 ∧ L 1 = 111 ∧ L 2 = 115 ∧ L 3 = 116
        · have t : b3 = true := s3.mpr ⟨rfl, d3⟩
          exact Or.inl ⟨3, by decide, by rw [t0, t2, t]; rfl, Nat.le_refl _, by rw [if_pos d3]⟩
        · have t3 : b3 = false := no s3 (fun z => d3 z.2)
          exact Or.inr ⟨by rw [t0, t2, t3]; rfl, fun _ => by rw [if_neg d3]⟩
  · have f0 : b0 = false := no s0 (fun z => c4 z.1)
    have f2 : b2 = false := no s2 (fun z => c4 z.1)
    have f3 : b3 = false := no s3 (fun z => c4 z.1)
    subst f0 f2 f3
    by_cases c3 : m = 3
    · subst c3
      have l0 := (hL 0 (by decide)).2.2
      have l1 := (hL 1 (by decide)).2.2
      have l2 := (hL 2 (by decide)).2.2
      have ev : valN L 3 = (L 0 * 128 + L 1) * 128 + L 2 := by simp only [valN, Nat.zero_mul, Nat.zero_add]
      rw [ev, wrdN3 (Nat.lt_of_le_of_lt l0 (by decide)) (Nat.lt_of_le_of_lt l1 (by decide)) (Nat.lt_of_le_of_lt l2 (by decide))]
      by_cases d1 : L 0 = 117 ∧ L 1 = 115 ∧ L 2 = 101
      · have t : b1 = true := s1.mpr ⟨rfl, d1⟩
        exact Or.inl ⟨1, by decide, by rw [t]; rfl, by decide, by rw [if_pos d1]⟩
      · have t1 : b1 = false := no s1 (fun z => d1 z.2)
        rw [if_neg d1]
        by_cases d4 : L 0 = 110 ∧ L 1 = 111 ∧ L 2 = 116
        · have t : b4 = true := s4.mpr ⟨rfl, d4⟩
          exact Or.inl ⟨4, by decide, by rw [t1, t]; rfl, by decide, by rw [if_pos d4]⟩
        · have t4 : b4 = false := no s4 (fun z => d4 z.2)
          exact Or.inr ⟨by rw [t1, t4]; rfl, fun _ => by rw [if_neg d4]⟩
    · have f1 : b1 = false := no s1 (fun z => c3 z.1)
      have f4 : b4 = false := no s4 (fun z => c3 z.1)
      subst f1 f4
      clear s0 s1 s2 s3 s4
      refine Or.inr ⟨rfl, fun hm => wrdN2 ?_⟩
      rcases (show m = 0 ∨ m = 1 ∨ m = 2 by omega) with e | e | e
      · subst e
        show 0 < 16384
        decide
      · subst e
        have a0 := (hL 0 (by decide)).2.2
        simp only [valN]
        omega
      · subst e
        have a0 := (hL 0 (by decide)).2.2
        have a1 := (hL 1 (by decide)).2.2
        simp only [valN]
        omega
