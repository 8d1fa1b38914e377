/-! RELATION, 4: captions -/
theorem anyR_iff (a : Nat → Bool) : ∀ c s, anyR a s c = true ↔ ∃ w, s ≤ w ∧ w < s + c ∧ a w = true := by
  intro c
  induction c with
  | zero => intro s; exact ⟨fun h => absurd h (by simp [anyR]), fun ⟨w, h1, h2, _⟩ => by omega⟩
  | succ c ih =>
    intro s
    simp only [anyR, Bool.or_eq_true, ih]
    constructor
    · rintro (h | ⟨w, h1, h2, h3⟩)
      · exact ⟨s, Nat.le_refl _, by omega, h⟩
      · exact ⟨w, by omega, by omega, h3⟩
    · rintro ⟨w, h1, h2, h3⟩
      by_cases e : w = s
      · exact Or.inl (e ▸ h3)
      · exact Or.inr ⟨w, by omega, by omega, h3⟩
theorem bool_ext {a b : Bool} (h : a = true ↔ b = true) : a = b := by
  cases a <;> cases b <;> simp_all
theorem cntF_ext {a b : Nat → Bool} : ∀ n, (∀ i, i < n → a i = b i) → cntF a n = cntF b n := by
  intro n
  induction n with
  | zero => intro _; rfl
  | succ n ih => intro h; simp only [cntF, h n (by omega), ih (fun i hi => h i (by omega))]
theorem cntF_tail {a : Nat → Bool} {n : Nat} : ∀ c, (∀ i, n ≤ i → i < n + c → a i = false) → cntF a (n + c) = cntF a n := by
  intro c
  induction c with
  | zero => intro _; rfl
  | succ c ih =>
    intro h
    have e : cntF a (n + (c + 1)) = cntF a (n + c) + (if a (n + c) = true then 1 else 0) := rfl
    rw [e, h (n + c) (by omega) (by omega), ih (fun i h1 h2 => h i h1 (by omega))]
    simp
theorem nthR_ext {a b : Nat → Bool} {i : Int32} : ∀ c s q, (∀ j, s ≤ j → j < s + c → a j = b j) → nthR a i s c q = nthR b i s c q := by
  intro c
  induction c with
  | zero => intro s q _; rfl
  | succ c ih =>
    intro s q h
    simp only [nthR, h s (Nat.le_refl _) (by omega), ih (s + 1) _ (fun j h1 h2 => h j (by omega) (by omega))]
theorem nthR_no {a : Nat → Bool} {i : Int32} : ∀ c s q, (∀ j, s ≤ j → j < s + c → a j = false) → nthR a i s c q = -1 := by
  intro c
  induction c with
  | zero => intro s q _; rfl
  | succ c ih =>
    intro s q h
    simp only [nthR, h s (Nat.le_refl _) (by omega), Bool.false_eq_true, if_false]
    exact ih (s + 1) q (fun j h1 h2 => h j (by omega) (by omega))
theorem nthR_tail {a : Nat → Bool} {i : Int32} {d : Nat} : ∀ c s q, (∀ j, s + c ≤ j → j < s + c + d → a j = false) → nthR a i s (c + d) q = nthR a i s c q := by
  intro c
  induction c with
  | zero =>
    intro s q h
    rw [Nat.zero_add]
    exact nthR_no d s q (fun j h1 h2 => h j (by omega) (by omega))
  | succ c ih =>
    intro s q h
    rw [show c + 1 + d = (c + d) + 1 by omega]
    simp only [nthR]
    rw [ih (s + 1) q (fun j h1 h2 => h j (by omega) (by omega)), ih (s + 1) (q + 1) (fun j h1 h2 => h j (by omega) (by omega))]
theorem pair_eq {a b i w : Nat} (ha : a < 40) (hb : b < 40) (hi : i < 40) (hw : w < 40) : (nI (a * 40 + b) = nI (i * 40 + w)) ↔ (a = i ∧ b = w) := by
  rw [nI_eq (by omega) (by omega)]
  omega
/-- the captions' half of the relation -/
def BC (clk : Int32) (n np nc : Nat) (lm lt lv cp cw ca cg came : Nat → Int32) (fp fw : Nat → Nat) : Prop :=
  nc ≤ 200 ∧ (∀ i, i < nc → (fp i < np ∧ fw i < n) ∧ (lt i = nI (fp i * 40 + fw i) ∧ cp i = nI (fp i) ∧ cw i = nI (fw i) ∧ lm i = ca i ∧ lv i = cg i) ∧ (cg i = 0 ∨ cg i = 1) ∧ ¬ clk < ca i ∧ ¬ ca i < came (fp i)) ∧ (∀ i, i + 1 < nc → ¬ ca (i + 1) < ca i)
def hasP (fp fw : Nat → Nat) (cg : Nat → Int32) (q x : Nat) (old : Bool) : Nat → Bool
  | 0 => false
  | i + 1 => if fp i = q ∧ fw i = x then (decide (cg i = 1) || (old && hasP fp fw cg q x old i)) else hasP fp fw cg q x old i
section BCs
variable {clk : Int32} {n np nc : Nat} {lm lt lv cp cw ca cg came : Nat → Int32} {fp fw : Nat → Nat}
theorem BC_clk (B : BC clk n np nc lm lt lv cp cw ca cg came fp fw) {c2 : Int32} (hc : ¬ c2 < clk) : BC c2 n np nc lm lt lv cp cw ca cg came fp fw := by
  obtain ⟨h1, h2, h3⟩ := B
  refine ⟨h1, fun i hi => ?_, h3⟩
  obtain ⟨a, b, c, d, e⟩ := h2 i hi
  exact ⟨a, b, c, fun z => hc (Int32.lt_of_lt_of_le z (Int32.not_lt.mp d)), e⟩
theorem BC_up (B : BC clk n np nc lm lt lv cp cw ca cg came fp fw) {n2 np2 : Nat} {came2 : Nat → Int32} (hn : n ≤ n2) (hp : np ≤ np2) (hc : ∀ i, i < np → came2 i = came i) : BC clk n2 np2 nc lm lt lv cp cw ca cg came2 fp fw := by
  obtain ⟨h1, h2, h3⟩ := B
  refine ⟨h1, fun i hi => ?_, h3⟩
  obtain ⟨a, b, c, d, e⟩ := h2 i hi
  exact ⟨⟨by omega, by omega⟩, b, c, d, by rw [hc _ a.1]; exact e⟩
theorem BC_new (B : BC clk n np nc lm lt lv cp cw ca cg came fp fw) (hnc : nc < 200) {i w : Nat} (hi : i < np) (hw : w < n) (b : Bool) (hc : ¬ clk < came i) : BC clk n np (nc + 1) (upd lm nc clk) (upd lt nc (nI (i * 40 + w))) (upd lv nc (bi b)) (upd cp nc (nI i)) (upd cw nc (nI w)) (upd ca nc clk) (upd cg nc (bi b)) came (fun j => if j = nc then i else fp j) (fun j => if j = nc then w else fw j) := by
  obtain ⟨h1, h2, h3⟩ := B
  refine ⟨by omega, fun j hj => ?_, fun j hj => ?_⟩
  · by_cases e : j = nc
    · subst e
      simp only [if_true, upd_eq]
      exact ⟨⟨hi, hw⟩, ⟨trivial, trivial, trivial, trivial, trivial⟩, by cases b; exact Or.inl rfl; exact Or.inr rfl, Int32.lt_irrefl, hc⟩
    · simp only [if_neg e, upd_ne e]
      exact h2 j (by omega)
  · by_cases e : j + 1 = nc
    · rw [e, upd_eq, upd_ne (by omega)]
      exact (h2 j (by omega)).2.2.2.1
    · rw [upd_ne e, upd_ne (by omega)]
      exact h3 j (by omega)
theorem lat_has (B : BC clk n np nc lm lt lv cp cw ca cg came fp fw) (hn : n ≤ 40) (hp : np ≤ 40) {i w : Nat} (hi : i < 40) (hw : w < 40) (m : Int32) : ∀ k, k ≤ nc → latF lm lt lv (nI (i * 40 + w)) m 0 k = bi (hasF cp cw ca cg (nI i) (nI w) m false k) := by
  obtain ⟨h1, h2, h3⟩ := B
  intro k
  induction k with
  | zero => intro _; rfl
  | succ k ih =>
    intro hk
    obtain ⟨⟨a1, a2⟩, ⟨b1, b2, b3, b4, b5⟩, c, d, e⟩ := h2 k (by omega)
    simp only [latF, hasF, b1, b2, b3, b4, b5, ih (by omega)]
    by_cases e1 : fp k = i ∧ fw k = w
    · rw [if_pos ((pair_eq (by omega) (by omega) hi hw).mpr e1), if_pos (show nI (fp k) = nI i by rw [e1.1]), if_pos (show nI (fw k) = nI w by rw [e1.2])]
      by_cases e2 : m < ca k
      · simp only [if_pos e2]
      · simp only [if_neg e2]
        rcases c with c | c <;> simp [c, bi]
    · rw [if_neg (fun z => e1 ((pair_eq (by omega) (by omega) hi hw).mp z))]
      by_cases e2 : nI (fp k) = nI i
      · have e3 : ¬ nI (fw k) = nI w := fun z => e1 ⟨(nI_eq (by omega) (by omega)).mp e2, (nI_eq (by omega) (by omega)).mp z⟩
        rw [if_pos e2, if_neg e3]
      · rw [if_neg e2]
theorem has_told (B : BC clk n np nc lm lt lv cp cw ca cg came fp fw) (hn : n ≤ 40) (hp : np ≤ 40) {q x : Nat} (hq : q < 1000) (hx : x < 1000) (m : Int32) (old : Bool) : hasF cp cw ca cg (nI q) (nI x) m old nc = hasP fp fw cg q x old (tolR lm m nc 0) := by
  obtain ⟨h1, h2, h3⟩ := B
  have ht := tolR_told lm m nc 0 (fun j hj => absurd hj (Nat.not_lt_zero j))
  have hle := tolR_le lm m nc 0
  have step : ∀ k, k < nc → hasF cp cw ca cg (nI q) (nI x) m old (k + 1) = if fp k = q ∧ fw k = x then (if m < ca k then hasF cp cw ca cg (nI q) (nI x) m old k else (decide (cg k = 1) || (old && hasF cp cw ca cg (nI q) (nI x) m old k))) else hasF cp cw ca cg (nI q) (nI x) m old k := by
    intro k hk
    obtain ⟨⟨a1, a2⟩, ⟨b1, b2, b3, b4, b5⟩, c, d, e⟩ := h2 k hk
    simp only [hasF, b2, b3]
    by_cases e1 : fp k = q ∧ fw k = x
    · rw [if_pos e1, if_pos (show nI (fp k) = nI q by rw [e1.1]), if_pos (show nI (fw k) = nI x by rw [e1.2])]
      rcases c with c | c <;> simp [c]
    · rw [if_neg e1]
      by_cases e2 : nI (fp k) = nI q
      · have e3 : ¬ nI (fw k) = nI x := fun z => e1 ⟨(nI_eq (by omega) (by omega)).mp e2, (nI_eq (by omega) (by omega)).mp z⟩
        rw [if_pos e2, if_neg e3]
      · rw [if_neg e2]
  have low : ∀ k, k ≤ tolR lm m nc 0 → hasF cp cw ca cg (nI q) (nI x) m old k = hasP fp fw cg q x old k := by
    intro k
    induction k with
    | zero => intro _; rfl
    | succ k ih =>
      intro hk
      have hm := ht.1 k (by omega)
      rw [(h2 k (by omega)).2.1.2.2.2.1] at hm
      rw [step k (by omega), if_neg hm, ih (by omega)]
      rfl
  have high : ∀ c, tolR lm m nc 0 + c ≤ nc → hasF cp cw ca cg (nI q) (nI x) m old (tolR lm m nc 0 + c) = hasF cp cw ca cg (nI q) (nI x) m old (tolR lm m nc 0) := by
    intro c
    induction c with
    | zero => intro _; rfl
    | succ c ih =>
      intro hc
      have g1 := ht.2 (by omega)
      rw [(h2 (tolR lm m nc 0) (by omega)).2.1.2.2.2.1] at g1
      have g2 := sorted_le h3 c (tolR lm m nc 0) (by omega)
      have hm : m < ca (tolR lm m nc 0 + c) := Int32.lt_of_lt_of_le g1 g2
      rw [show tolR lm m nc 0 + (c + 1) = (tolR lm m nc 0 + c) + 1 by omega, step _ (by omega), if_pos hm, ih (by omega)]
      simp
  have := high (nc - tolR lm m nc 0) (by omega)
  rw [show tolR lm m nc 0 + (nc - tolR lm m nc 0) = nc by omega] at this
  rw [this, low _ (Nat.le_refl _)]
theorem capR_bit {f : Nat → Int64} {fv : Nat → Int32} {old : Bool} {q x : Nat} (hx : x < 64) (hf : bitL (f q) x = false) : ∀ k, (∀ i, i < k → fw i < 64) → bitL (capR f fp fw fv old k q) x = hasP fp fw fv q x old k := by
  intro k
  induction k with
  | zero => intro _; exact hf
  | succ k ih =>
    intro hw
    have ih := ih (fun i hi => hw i (by omega))
    have hk := hw k (by omega)
    simp only [capR, hasP]
    by_cases c1 : fv k = 1
    · rw [if_pos c1]
      simp only [vp_updL]
      by_cases e : q = fp k
      · rw [if_pos e, ← e, bitL_or, ih, bitL_shl hk hx]
        by_cases e2 : x = fw k
        · simp [e2, c1]
        · have e3 : ¬ fw k = x := fun z => e2 z.symm
          simp [e2, e3]
      · rw [if_neg e, ih]
        have : ¬ (fp k = q ∧ fw k = x) := fun z => e z.1.symm
        rw [if_neg this]
    · rw [if_neg c1]
      cases old
      · simp only [Bool.false_eq_true, if_false, vp_updL]
        by_cases e : q = fp k
        · rw [if_pos e, ← e, bitL_and, ih, bitL_not _ hx, bitL_shl hk hx]
          by_cases e2 : x = fw k
          · simp [e2, c1]
          · have e3 : ¬ fw k = x := fun z => e2 z.symm
            simp [e2, e3]
        · rw [if_neg e, ih]
          have : ¬ (fp k = q ∧ fw k = x) := fun z => e z.1.symm
          rw [if_neg this]
      · simp only [if_true, ih]
        by_cases e : fp k = q ∧ fw k = x
        · simp [e, c1]
        · rw [if_neg e]
theorem pwR_bit {g : Nat → Int64} {w : Int64} {q : Nat} (hq : q < 64) : ∀ k, k ≤ 64 → bitL (pwR g w k) q = (decide (q < k) && !decide (g q &&& w = 0)) := by
  intro k
  induction k with
  | zero => intro _; simp [pwR, bitL_0]
  | succ k ih =>
    intro hk
    have ih := ih (by omega)
    simp only [pwR]
    by_cases c : g k &&& w = 0
    · rw [if_pos c, ih]
      by_cases e : q = k
      · subst e
        simp [c]
      · have : (q < k + 1) ↔ (q < k) := by omega
        simp [this]
    · rw [if_neg c, bitL_or, ih, bitL_shl (by omega) hq]
      by_cases e : q = k
      · subst e
        simp [c]
      · have : (q < k + 1) ↔ (q < k) := by omega
        simp [e, this]
theorem has_in (B : BC clk n np nc lm lt lv cp cw ca cg came fp fw) (hn : n ≤ 40) (hp : np ≤ 40) {q x : Nat} (hq : q < 1000) (hx : x < 1000) {m : Int32} {old : Bool} (h : hasF cp cw ca cg (nI q) (nI x) m old nc = true) : q < np ∧ x < n ∧ ¬ m < came q := by
  obtain ⟨h1, h2, h3⟩ := B
  have : ∀ k, k ≤ nc → hasF cp cw ca cg (nI q) (nI x) m old k = true → q < np ∧ x < n ∧ ¬ m < came q := by
    intro k
    induction k with
    | zero => intro _ z; cases z
    | succ k ih =>
      intro hk z
      obtain ⟨⟨a1, a2⟩, ⟨b1, b2, b3, b4, b5⟩, c, d, e⟩ := h2 k (by omega)
      simp only [hasF, b2, b3] at z
      split at z
      · rename_i e1
        split at z
        · rename_i e2
          split at z
          · exact ih (by omega) z
          · rename_i e3
            have q1 : fp k = q := (nI_eq (by omega) (by omega)).mp e1
            have x1 : fw k = x := (nI_eq (by omega) (by omega)).mp e2
            subst q1 x1
            exact ⟨a1, a2, fun y => e3 (Int32.lt_of_lt_of_le y (Int32.not_lt.mp e))⟩
        · exact ih (by omega) z
      · exact ih (by omega) z
  exact this nc (Nat.le_refl _) h
end BCs
