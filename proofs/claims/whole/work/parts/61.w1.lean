/-! RELATION, 1: words -/
theorem hld_nI (c : Int64) {j : Nat} (hj : j < 64) : hldB c (nI j) = bitL c j := by
  have b := ltB_nI hj (show 64 < 2 ^ 31 by decide)
  have e : (64 : Int32) = nI 64 := by decide
  unfold hldB
  rw [e, b]
  cases h : bitL c j
  · have := (shr0_L c hj).mpr h
    simp [this]
  · have : ¬ ((c >>> ((nI j).toInt64 &&& 63)) &&& 1 = 0) := by
      rw [shr0_L c hj, h]
      simp
    simp [this]
theorem hld_neg (c : Int64) {x : Int32} (hx : x < 0) : hldB c x = false := by simp [hldB, ltB, hx]
/-- the last of the first k rows that tells of t, or d -/
def lasP (lt lv : Nat → Int32) (t d : Int32) : Nat → Int32
  | 0 => d
  | k + 1 => if lt k = t then lv k else lasP lt lv t d k
theorem tolR_told (lm : Nat → Int32) (m : Int32) : ∀ c k, (∀ j, j < k → ¬ m < lm j) → (∀ j, j < tolR lm m c k → ¬ m < lm j) ∧ (tolR lm m c k < k + c → m < lm (tolR lm m c k)) := by
  intro c
  induction c with
  | zero => intro k hk; exact ⟨hk, fun z => absurd z (Nat.lt_irrefl _)⟩
  | succ c ih =>
    intro k hk
    simp only [tolR]
    split
    · rename_i h
      exact ⟨hk, fun _ => h⟩
    · rename_i h
      have := ih (k + 1) (fun j hj => by
        by_cases e : j = k
        · rw [e]; exact h
        · exact hk j (by omega))
      exact ⟨this.1, fun z => this.2 (by omega)⟩
theorem sorted_le {lm : Nat → Int32} {n : Nat} (hs : ∀ j, j + 1 < n → ¬ lm (j + 1) < lm j) : ∀ d a, a + d < n → lm a ≤ lm (a + d) := by
  intro d
  induction d with
  | zero => intro a _; exact Int32.le_refl _
  | succ d ih =>
    intro a ha
    have h1 := ih a (by omega)
    have h2 := hs (a + d) (by omega)
    exact Int32.le_trans h1 (Int32.not_lt.mp h2)
theorem lat_las {lm lt lv : Nat → Int32} {n : Nat} {t m d : Int32} (hs : ∀ j, j + 1 < n → ¬ lm (j + 1) < lm j) : latF lm lt lv t m d n = lasP lt lv t d (tolR lm m n 0) := by
  have ht := tolR_told lm m n 0 (fun j hj => absurd hj (Nat.not_lt_zero j))
  have hle := tolR_le lm m n 0
  have low : ∀ k, k ≤ tolR lm m n 0 → latF lm lt lv t m d k = lasP lt lv t d k := by
    intro k
    induction k with
    | zero => intro _; rfl
    | succ k ih =>
      intro hk
      have hm := ht.1 k (by omega)
      simp only [latF, lasP, if_neg hm, ih (by omega)]
  have high : ∀ c, tolR lm m n 0 + c ≤ n → latF lm lt lv t m d (tolR lm m n 0 + c) = latF lm lt lv t m d (tolR lm m n 0) := by
    intro c
    induction c with
    | zero => intro _; rfl
    | succ c ih =>
      intro hc
      have h1 := ht.2 (by omega)
      have h2 := sorted_le hs c (tolR lm m n 0) (by omega)
      have hm : m < lm (tolR lm m n 0 + c) := Int32.lt_of_lt_of_le h1 h2
      have : latF lm lt lv t m d (tolR lm m n 0 + (c + 1)) = if lt (tolR lm m n 0 + c) = t then (if m < lm (tolR lm m n 0 + c) then latF lm lt lv t m d (tolR lm m n 0 + c) else lv (tolR lm m n 0 + c)) else latF lm lt lv t m d (tolR lm m n 0 + c) := rfl
      rw [this, if_pos hm, ih (by omega)]
      simp
  have := high (n - tolR lm m n 0) (by omega)
  rw [show tolR lm m n 0 + (n - tolR lm m n 0) = n by omega] at this
  rw [this, low _ (Nat.le_refl _)]
theorem rc1_eq (f mk mi : Nat → Int32) (m : Int32) : ∀ n j, rc1 f mk mi m n j = if j < n then (if m < mk j then -1 else mi j) else f j := by
  intro n
  induction n with
  | zero => intro j; rfl
  | succ n ih =>
    intro j
    simp only [rc1, upd]
    by_cases h1 : j = n
    · subst h1
      simp
    · rw [if_neg h1, ih]
      by_cases h2 : j < n
      · rw [if_pos h2, if_pos (show j < n + 1 by omega)]
      · rw [if_neg h2, if_neg (show ¬ j < n + 1 by omega)]
theorem rc2_eq {n nt : Nat} (hn : n < 1000) (f lt lv : Nat → Int32) (hw : ∀ j, j < nt → ∃ x, x < n ∧ lt j = nI x) {w : Nat} (hwn : w < n) : ∀ k, k ≤ nt → rc2 n f lt lv k w = lasP lt lv (nI w) (f w) k := by
  intro k
  induction k with
  | zero => intro _; rfl
  | succ k ih =>
    intro hk
    obtain ⟨x, hx, ex⟩ := hw k (by omega)
    have b := ltB_nI hx (show n < 2 ^ 31 by omega)
    have hcl : (nI x).toNatClampNeg = x := nI_clamp (by omega)
    simp only [rc2, lasP, ex, b, if_true, hcl, upd, ih (by omega)]
    by_cases e : w = x
    · subst e
      simp
    · have : ¬ nI x = nI w := fun z => e (((nI_eq (by omega) (by omega)).mp z).symm)
      simp [e, this]
/-- the words' half of the relation: clk the minute, n words, nt puttings, p rows of the reference -/
def BW (clk : Int32) (n nt p : Nat) (mk mi lm lt lv pw pi pa : Nat → Int32) : Prop :=
  (n ≤ 40 ∧ nt ≤ 100 ∧ p = n + nt) ∧
  (∀ w, w < n → ∀ m, liesF pw pi pa (nI w) m p = if m < mk w then -1 else latF lm lt lv (nI w) m (mi w) nt) ∧
  (∀ k, k < p → (∃ x, x < n ∧ pw k = nI x) ∧ ¬ clk < pa k) ∧
  (∀ j, j < nt → (∃ x, x < n ∧ lt j = nI x ∧ ¬ lm j < mk x) ∧ ¬ clk < lm j ∧ (lv j = -1 ∨ ∃ x, x < n ∧ lv j = nI x)) ∧
  (∀ j, j + 1 < nt → ¬ lm (j + 1) < lm j) ∧
  (∀ w, w < n → ¬ clk < mk w ∧ (mi w = -1 ∨ ∃ x, x < n ∧ mi w = nI x))
theorem par_eq {clk : Int32} {n nt p : Nat} {mk mi lm lt lv pw pi pa : Nat → Int32} (B : BW clk n nt p mk mi lm lt lv pw pi pa) (f : Nat → Int32) (m : Int32) {w : Nat} (hw : w < n) : rc2 n (rc1 f mk mi m n) lt lv (tolR lm m nt 0) w = liesF pw pi pa (nI w) m p := by
  obtain ⟨⟨h1, h2, h3⟩, h4, h5, h6, h7, h8⟩ := B
  have hle := tolR_le lm m nt 0
  rw [rc2_eq (by omega) _ lt lv (fun j hj => by obtain ⟨⟨x, a, b, c⟩, -⟩ := h6 j hj; exact ⟨x, a, b⟩) hw _ (by omega), rc1_eq, if_pos hw, h4 w hw m]
  by_cases c : m < mk w
  · rw [if_pos c, if_pos c]
    have ht := (tolR_told lm m nt 0 (fun j hj => absurd hj (Nat.not_lt_zero j))).1
    have : ∀ k, k ≤ tolR lm m nt 0 → lasP lt lv (nI w) (-1) k = -1 := by
      intro k
      induction k with
      | zero => intro _; rfl
      | succ k ih =>
        intro hk
        simp only [lasP]
        have ne : ¬ lt k = nI w := by
          intro e
          obtain ⟨⟨x, hx, ex, hm⟩, -⟩ := h6 k (by omega)
          have : x = w := (nI_eq (by omega) (by omega)).mp (ex.symm.trans e)
          subst this
          exact hm (Int32.lt_of_le_of_lt (Int32.not_lt.mp (ht k (by omega))) c)
        rw [if_neg ne, ih (by omega)]
    exact this _ (Nat.le_refl _)
  · rw [if_neg c, if_neg c, lat_las h7]
theorem lat_in {lm lt lv : Nat → Int32} {t m d : Int32} {n : Nat} (hd : d = -1 ∨ ∃ x, x < n ∧ d = nI x) : ∀ k, (∀ j, j < k → lv j = -1 ∨ ∃ x, x < n ∧ lv j = nI x) → (latF lm lt lv t m d k = -1 ∨ ∃ x, x < n ∧ latF lm lt lv t m d k = nI x) := by
  intro k
  induction k with
  | zero => intro _; exact hd
  | succ k ih =>
    intro h
    have i := ih (fun j hj => h j (by omega))
    simp only [latF]
    split
    · split
      · exact i
      · exact h k (by omega)
    · exact i
theorem lies_in {clk : Int32} {n nt p : Nat} {mk mi lm lt lv pw pi pa : Nat → Int32} (B : BW clk n nt p mk mi lm lt lv pw pi pa) (m : Int32) {w : Nat} (hw : w < n) : liesF pw pi pa (nI w) m p = -1 ∨ ∃ x, x < n ∧ liesF pw pi pa (nI w) m p = nI x := by
  obtain ⟨-, h4, h5, h6, h7, h8⟩ := B
  rw [h4 w hw m]
  split
  · exact Or.inl rfl
  · exact lat_in (h8 w hw).2 nt (fun j hj => (h6 j hj).2.2)
