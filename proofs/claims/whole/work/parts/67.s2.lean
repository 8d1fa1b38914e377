/-! RELATION, 7: the class's set is the same -/
/-- what holds of the class's search: the first i of the chain are done -/
def BJ (lk : Nat → Nat → Bool) (n x0 i : Nat) (s : BS) : Prop :=
  (s.2.2 ≤ 40 ∧ s.2.2 = cntF (bitL s.1) n ∧ bitL s.1 x0 = true) ∧
  (∀ j, j < 64 → bitL s.1 j = true → j < n ∧ ∃ k, k < s.2.2 ∧ s.2.1 k = nI j) ∧
  (∀ k, k < s.2.2 → ∃ j, j < n ∧ s.2.1 k = nI j ∧ bitL s.1 j = true) ∧
  (∀ S : Nat → Prop, S x0 → (∀ p q, p < n → q < n → S q → lk q p = true → S p) → ∀ j, j < n → bitL s.1 j = true → S j) ∧
  (∀ k, k < i → k < s.2.2 → ∀ j o, j < n → s.2.1 k = nI j → o < n → lk j o = true → bitL s.1 o = true)
section BF
variable {lk : Nat → Nat → Bool} {n x0 i x : Nat} {s : BS}
theorem stB_BJ (hn : n ≤ 40) {o : Nat} (ho : o < n) (hx : x < n) (hm : bitL s.1 x = true) (hi : i ≤ s.2.2) (J : BJ lk n x0 i s) : BJ lk n x0 i (stB lk x o s) ∧ (∀ j, bitL s.1 j = true → bitL (stB lk x o s).1 j = true) ∧ (lk x o = true → bitL (stB lk x o s).1 o = true) ∧ s.2.2 ≤ (stB lk x o s).2.2 ∧ (∀ k, k < s.2.2 → (stB lk x o s).2.1 k = s.2.1 k) := by
  have J0 := J
  obtain ⟨⟨h1, h2, h3⟩, h4, h5, h6, h7⟩ := J
  have full : lk x o = true → bitL s.1 o = false → s.2.2 < 40 := by
    intro _ hb
    have lt : cntF (bitL s.1) n < cntF (fun _ => true) n := cntF_lt n (fun _ _ _ => rfl) ⟨o, ho, rfl, hb⟩
    have : cntF (fun _ => true) n ≤ n := cntF_le _ n
    omega
  unfold stB
  rw [hld_nI _ (show o < 64 by omega)]
  by_cases c : (bitL s.1 o = false ∧ lk x o = true) ∧ s.2.2 < 40
  · rw [if_pos c]
    obtain ⟨⟨c1, c2⟩, c3⟩ := c
    have nb : ∀ j, j < 64 → bitL (s.1 ||| ((1 : Int64) <<< ((nI o).toInt64 &&& 63))) j = (bitL s.1 j || decide (j = o)) := by
      intro j hj
      rw [bitL_or, bitL_shl (by omega) hj]
    have ks : ∀ k, k < s.2.2 → upd s.2.1 s.2.2 (nI o) k = s.2.1 k := fun k hk => upd_ne (by omega)
    have mono : ∀ j, bitL s.1 j = true → bitL (s.1 ||| ((1 : Int64) <<< ((nI o).toInt64 &&& 63))) j = true := by
      intro j hj
      rw [bitL_or, hj]
      rfl
    refine ⟨⟨⟨by dsimp only; omega, ?_, ?_⟩, ?_, ?_, ?_, ?_⟩, mono, fun _ => ?_, by dsimp only; omega, ks⟩
    · dsimp only
      rw [cntF_one (a := bitL s.1) c1 n (fun j hj => nb j (by omega)), if_pos ho, ← h2]
    · exact mono x0 h3
    · intro j hj hb
      dsimp only at hb ⊢
      rw [nb j hj, Bool.or_eq_true, decide_eq_true_eq] at hb
      rcases hb with hb | hb
      · obtain ⟨a, k, hk, e⟩ := h4 j hj hb
        exact ⟨a, k, by omega, by rw [ks k hk]; exact e⟩
      · exact ⟨by omega, s.2.2, by omega, by rw [upd_eq, hb]⟩
    · intro k hk
      dsimp only at hk ⊢
      by_cases e : k = s.2.2
      · subst e
        exact ⟨o, ho, upd_eq, by rw [nb o (by omega)]; simp⟩
      · obtain ⟨j, a, b, d⟩ := h5 k (by omega)
        exact ⟨j, a, by rw [upd_ne e]; exact b, mono j d⟩
    · intro S hS hc j hj hb
      dsimp only at hb
      rw [nb j (by omega), Bool.or_eq_true, decide_eq_true_eq] at hb
      rcases hb with hb | hb
      · exact h6 S hS hc j hj hb
      · rw [hb]
        exact hc o x ho hx (h6 S hS hc x hx hm) c2
    · intro k hk1 hk2 j q hj e hq hl
      dsimp only at hk2 e ⊢
      by_cases e2 : k = s.2.2
      · exfalso
        subst e2
        omega
      · rw [ks k (by omega)] at e
        exact mono q (h7 k hk1 (by omega) j q hj e hq hl)
    · dsimp only
      rw [nb o (by omega)]
      simp
  · rw [if_neg c]
    refine ⟨J0, fun _ h => h, fun hl => ?_, Nat.le_refl _, fun _ _ => rfl⟩
    cases e : bitL s.1 o
    · exact absurd ⟨⟨e, hl⟩, full hl e⟩ c
    · rfl
theorem inS_BJ (hn : n ≤ 40) (hx : x < n) : ∀ c k s, k + c = n → bitL s.1 x = true → i ≤ s.2.2 → BJ lk n x0 i s → BJ lk n x0 i (inS lk x k c s) ∧ (∀ j, bitL s.1 j = true → bitL (inS lk x k c s).1 j = true) ∧ (∀ o, k ≤ o → o < n → lk x o = true → bitL (inS lk x k c s).1 o = true) ∧ s.2.2 ≤ (inS lk x k c s).2.2 ∧ (∀ q, q < s.2.2 → (inS lk x k c s).2.1 q = s.2.1 q) := by
  intro c
  induction c with
  | zero => intro k s hk _ _ J; exact ⟨J, fun _ h => h, fun o h1 h2 => by omega, Nat.le_refl _, fun _ _ => rfl⟩
  | succ c ih =>
    intro k s hk hm hi J
    obtain ⟨a1, a2, a3, a4, a5⟩ := stB_BJ hn (show k < n by omega) hx hm hi J
    obtain ⟨b1, b2, b3, b4, b5⟩ := ih (k + 1) (stB lk x k s) (by omega) (a2 x hm) (by omega) a1
    simp only [inS]
    refine ⟨b1, fun j h => b2 j (a2 j h), fun o h1 h2 hl => ?_, by omega, fun q hq => (b5 q (by omega)).trans (a5 q hq)⟩
    by_cases e : o = k
    · subst e
      exact b2 o (a3 hl)
    · exact b3 o (by omega) h2 hl
theorem ouS_BJ (hn : n ≤ 40) : ∀ c i s, i + c = 40 → i ≤ s.2.2 → BJ lk n x0 i s → ∃ i', BJ lk n x0 i' (ouS lk n c i s) ∧ (ouS lk n c i s).2.2 ≤ i' := by
  intro c
  induction c with
  | zero => intro i s hi _ J; exact ⟨i, J, by have := J.1.1; show s.2.2 ≤ i; omega⟩
  | succ c ih =>
    intro i s hi hle J
    simp only [ouS]
    by_cases e : i < s.2.2
    · rw [if_pos e]
      obtain ⟨x, hx, ex, bx⟩ := J.2.2.1 i e
      have hcl : (nI x).toNatClampNeg = x := nI_clamp (by omega)
      rw [ex, hcl]
      obtain ⟨b1, b2, b3, b4, b5⟩ := inS_BJ hn hx n 0 s (by omega) bx hle J
      refine ih (i + 1) (inS lk x 0 n s) (by omega) (by omega) ⟨b1.1, b1.2.1, b1.2.2.1, b1.2.2.2.1, fun k hk1 hk2 j o hj ek ho hl => ?_⟩
      by_cases e2 : k = i
      · subst e2
        rw [b5 k e, ex] at ek
        have : x = j := (nI_eq (by omega) (by omega)).mp ek
        subst this
        exact b3 o (Nat.zero_le _) ho hl
      · exact b1.2.2.2.2 k (by omega) hk2 j o hj ek ho hl
    · rw [if_neg e]
      exact ⟨i, J, by omega⟩
theorem setB_ok (hn : n ≤ 40) (hx : x0 < n) {f : Nat → Int32} : Cls (fun p q => lk q p) n x0 (fun j => bitL (ouS lk n 40 0 ((1 : Int64) <<< ((nI x0).toInt64 &&& 63), upd f 0 (nI x0), 1)).1 j = true) ∧ ∀ j, j < 64 → bitL (ouS lk n 40 0 ((1 : Int64) <<< ((nI x0).toInt64 &&& 63), upd f 0 (nI x0), 1)).1 j = true → j < n := by
  have b0 : ∀ j, j < 64 → bitL ((1 : Int64) <<< ((nI x0).toInt64 &&& 63)) j = decide (j = x0) := fun j hj => bitL_shl (by omega) hj
  have J0 : BJ lk n x0 0 ((1 : Int64) <<< ((nI x0).toInt64 &&& 63), upd f 0 (nI x0), 1) := by
    refine ⟨⟨by show 1 ≤ 40; decide, ?_, by rw [b0 x0 (by omega)]; simp⟩, fun j hj hb => ?_, fun k hk => ?_, fun S hS _ j hj hb => ?_, fun k hk => absurd hk (Nat.not_lt_zero _)⟩
    · show 1 = cntF (bitL ((1 : Int64) <<< ((nI x0).toInt64 &&& 63))) n
      rw [cntF_one (a := fun _ => false) (o := x0) rfl n (fun j hj => by rw [b0 j (by omega)]; simp), if_pos hx]
      have : ∀ n, cntF (fun _ => false) n = 0 := by
        intro n
        induction n with
        | zero => rfl
        | succ n ih => simp [cntF, ih]
      rw [this]
    · have e : j = x0 := by
        have h2 : bitL ((1 : Int64) <<< ((nI x0).toInt64 &&& 63)) j = true := hb
        rw [b0 j hj] at h2
        simpa using h2
      exact ⟨by omega, 0, by show 0 < 1; omega, by rw [e]; show upd f 0 (nI x0) 0 = nI x0; exact upd_eq⟩
    · have e : k = 0 := by
        have h2 : k < 1 := hk
        omega
      subst e
      exact ⟨x0, hx, (show upd f 0 (nI x0) 0 = nI x0 from upd_eq), by show bitL ((1 : Int64) <<< ((nI x0).toInt64 &&& 63)) x0 = true; rw [b0 x0 (by omega)]; simp⟩
    · have e : j = x0 := by
        have h2 : bitL ((1 : Int64) <<< ((nI x0).toInt64 &&& 63)) j = true := hb
        rw [b0 j (by omega)] at h2
        simpa using h2
      rw [e]
      exact hS
  obtain ⟨i', J, hle⟩ := ouS_BJ (lk := lk) hn 40 0 _ (by omega) (Nat.zero_le _) J0
  refine ⟨⟨J.1.2.2, fun p q hp hq hU hl => ?_, fun S hS hc j hj hb => J.2.2.2.1 S hS hc j hj hb⟩, fun j hj hb => (J.2.1 j hj hb).1⟩
  obtain ⟨-, k, hk, ek⟩ := J.2.1 q (by omega) hU
  exact J.2.2.2.2 k (by omega) hk q p hq ek hp hl
end BF
