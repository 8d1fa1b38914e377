/-! RELATION, 8: pictures -/
/-- the pictures' half of the relation: class shutters, taken, persons, grids, distances; reference shutter, taken, persons, came, grid -/
def BP (clk : Int32) (np : Nat) (s1 t1 e1 : Nat → Int32) (gr : Nat → Int64) (di sh tk pe cm gd : Nat → Int32) : Prop :=
  np ≤ 40 ∧ (∀ i, i < np → (s1 i = sh i ∧ t1 i = tk i ∧ e1 i = pe i) ∧ ¬ clk < cm i ∧ ∀ k, k < 16 → gd (16 * i + k) = nib (gr i) k) ∧ (∀ a b, a < np → b < np → di (a * 40 + b) = farF gd a b 16) ∧ (∀ a, a < 40 → di (a * 40 + a) = 0)
theorem grR_eq {f : Nat → Int32} {np : Nat} {g : Int64} : ∀ n j, grR f np g n j = if 16 * np ≤ j ∧ j < 16 * np + n then nib g (j - 16 * np) else f j := by
  intro n
  induction n with
  | zero => intro j; rw [if_neg (by omega)]; rfl
  | succ n ih =>
    intro j
    simp only [grR]
    by_cases e : j = 16 * np + n
    · subst e
      rw [upd_eq, if_pos (by omega)]
      congr 1
      omega
    · rw [upd_ne e, ih]
      by_cases c : 16 * np ≤ j ∧ j < 16 * np + n
      · rw [if_pos c, if_pos (by omega)]
      · rw [if_neg c, if_neg (by omega)]
theorem addR_eq {f : Nat → Int32} {n : Nat} {gr : Nat → Int64} {g : Int64} (hn : n < 40) {a b : Nat} (ha : a < 40) (hb : b < 40) : ∀ c, c ≤ n → addR f n gr g c (a * 40 + b) = if a = n ∧ b < c then difF g (gr b) 16 else if b = n ∧ a < c then difF g (gr a) 16 else f (a * 40 + b) := by
  intro c
  induction c with
  | zero => intro _; rw [if_neg (by omega), if_neg (by omega)]; rfl
  | succ c ih =>
    intro hc
    have ih := ih (by omega)
    simp only [addR]
    by_cases e1 : b = n ∧ a = c
    · obtain ⟨e1, e2⟩ := e1
      subst e1 e2
      rw [upd_eq, if_neg (by omega), if_pos (by omega)]
    · rw [upd_ne (by omega)]
      by_cases e2 : a = n ∧ b = c
      · obtain ⟨e2, e3⟩ := e2
        subst e2 e3
        rw [upd_eq, if_pos (by omega)]
      · rw [upd_ne (by omega), ih]
        by_cases c1 : a = n ∧ b < c
        · rw [if_pos c1, if_pos (show a = n ∧ b < c + 1 by omega)]
        · rw [if_neg c1, if_neg (show ¬ (a = n ∧ b < c + 1) by omega)]
          by_cases c2 : b = n ∧ a < c
          · rw [if_pos c2, if_pos (show b = n ∧ a < c + 1 by omega)]
          · rw [if_neg c2, if_neg (show ¬ (b = n ∧ a < c + 1) by omega)]
section BPs
variable {clk : Int32} {np : Nat} {s1 t1 e1 : Nat → Int32} {gr : Nat → Int64} {di sh tk pe cm gd : Nat → Int32}
theorem BP_clk (B : BP clk np s1 t1 e1 gr di sh tk pe cm gd) {c2 : Int32} (hc : ¬ c2 < clk) : BP c2 np s1 t1 e1 gr di sh tk pe cm gd := by
  obtain ⟨h1, h2, h3⟩ := B
  exact ⟨h1, fun i hi => ⟨(h2 i hi).1, fun z => hc (Int32.lt_of_lt_of_le z (Int32.not_lt.mp (h2 i hi).2.1)), (h2 i hi).2.2⟩, h3⟩
theorem updL_ne {f : Nat → Int64} {n j : Nat} {x : Int64} (h : ¬ j = n) : vp_updL f n x j = f j := by simp [vp_updL, h]
theorem updL_eq {f : Nat → Int64} {n : Nat} {x : Int64} : vp_updL f n x n = x := by simp [vp_updL]
theorem BP_new (B : BP clk np s1 t1 e1 gr di sh tk pe cm gd) (hnp : np < 40) (a b c : Int32) (g : Int64) : BP clk (np + 1) (upd s1 np a) (upd t1 np b) (upd e1 np c) (vp_updL gr np g) (addR di np gr g np) (upd sh np a) (upd tk np b) (upd pe np c) (upd cm np clk) (grR gd np g 16) := by
  obtain ⟨h1, h2, h3, h4⟩ := B
  have old : ∀ i, i < np → ∀ k, k < 16 → grR gd np g 16 (16 * i + k) = gd (16 * i + k) := by
    intro i hi k hk
    rw [grR_eq, if_neg (by omega)]
  have new : ∀ k, k < 16 → grR gd np g 16 (16 * np + k) = nib g k := by
    intro k hk
    rw [grR_eq, if_pos (by omega)]
    congr 1
    omega
  refine ⟨by omega, fun i hi => ?_, fun x y hx hy => ?_, fun x hx => ?_⟩
  · by_cases e : i = np
    · subst e
      rw [upd_eq, upd_eq, upd_eq, upd_eq, upd_eq, upd_eq, upd_eq, updL_eq]
      exact ⟨⟨rfl, rfl, rfl⟩, Int32.lt_irrefl, new⟩
    · rw [upd_ne e, upd_ne e, upd_ne e, upd_ne e, upd_ne e, upd_ne e, upd_ne e, updL_ne e]
      obtain ⟨q1, q2, q3⟩ := h2 i (by omega)
      exact ⟨q1, q2, fun k hk => by rw [old i (by omega) k hk]; exact q3 k hk⟩
  · rw [addR_eq hnp (by omega) (by omega) np (Nat.le_refl _)]
    by_cases ex : x = np
    · subst ex
      by_cases ey : y = x
      · subst ey
        rw [if_neg (by omega), if_neg (by omega), farF_self]
        exact h4 y (by omega)
      · rw [if_pos ⟨rfl, by omega⟩]
        exact (farF_dif 16 (Nat.le_refl _) (fun k hk => ⟨new k hk, by rw [old y (by omega) k hk]; exact (h2 y (by omega)).2.2 k hk⟩)).symm
    · rw [if_neg (by omega)]
      by_cases ey : y = np
      · subst ey
        rw [if_pos ⟨rfl, by omega⟩, difF_sym _ _ 16 (Nat.le_refl _)]
        exact (farF_dif 16 (Nat.le_refl _) (fun k hk => ⟨by rw [old x (by omega) k hk]; exact (h2 x (by omega)).2.2 k hk, new k hk⟩)).symm
      · rw [if_neg (by omega), h3 x y (by omega) (by omega)]
        exact farF_congr 16 (fun k hk => ⟨(old x (by omega) k hk).symm, (old y (by omega) k hk).symm⟩)
  · rw [addR_eq hnp hx hx np (Nat.le_refl _), if_neg (by omega), if_neg (by omega)]
    exact h4 x hx
theorem far_sym (B : BP clk np s1 t1 e1 gr di sh tk pe cm gd) {a b : Nat} (ha : a < np) (hb : b < np) : farF gd a b 16 = farF gd b a 16 := by
  obtain ⟨h1, h2, h3, h4⟩ := B
  rw [farF_dif 16 (Nat.le_refl _) (fun k hk => ⟨(h2 a ha).2.2 k hk, (h2 b hb).2.2 k hk⟩), farF_dif 16 (Nat.le_refl _) (fun k hk => ⟨(h2 b hb).2.2 k hk, (h2 a ha).2.2 k hk⟩), difF_sym _ _ 16 (Nat.le_refl _)]
end BPs
section ST
variable {σ : am_H} {np x : Nat} {clk : Int32}
/-- the pictures' half, of a heap -/
abbrev BPσ (σ : am_H) (clk : Int32) (np : Nat) : Prop := BP clk np (ga σ 10) (ga σ 11) (ga σ 12) (gL σ 13) (ga σ 14) (ga σ 44) (ga σ 45) (ga σ 47) (ga σ 46) (ga σ 48)
theorem lk_eq (B : BPσ σ clk np) (hl : gi σ 9 0 7 = gi σ 40 11 18) {p q : Nat} (hp : p < np) (hq : q < np) : aLk σ q p = mLk σ p q := by
  unfold aLk mLk
  rw [B.2.2.1 q p hq hp, hl, far_sym B hp hq]
/-- the class's set and the reference's are one -/
theorem set_eq (B : BPσ σ clk np) (hl : gi σ 9 0 7 = gi σ 40 11 18) (hx : x < np) : ∃ N g, mSpr σ np N (nI x) = some g ∧ (¬ g x = 0) ∧ (∀ j, j < 64 → bitL (setB σ np x).1 j = (decide (j < np) && !decide (g j = 0))) := by
  have hnp : np ≤ 40 := B.1
  obtain ⟨N, g, h1, h2⟩ := spr_ok (lk := mLk σ) (base := ga σ 59) hnp hx
  obtain ⟨h3, h4⟩ := setB_ok (lk := aLk σ) (f := ga σ 15) hnp hx
  have e : Cls (mLk σ) np x (fun j => bitL (setB σ np x).1 j = true) := by
    refine ⟨h3.1, fun p q hp hq hU hk => h3.2.1 p q hp hq hU (by show aLk σ q p = true; rw [lk_eq B hl hp hq]; exact hk), fun S hS hc => h3.2.2 S hS (fun p q hp hq hU hk => hc p q hp hq hU (by rw [← lk_eq B hl hp hq]; exact hk))⟩
  have u := Cls_uniq e h2
  refine ⟨N, g, h1, h2.1, fun j hj => ?_⟩
  apply bool_ext
  by_cases c : j < np
  · rw [u j c]
    simp [c]
  · simp only [c, decide_false, Bool.false_and, Bool.false_eq_true, iff_false]
    exact fun z => c (h4 j hj z)
end ST
