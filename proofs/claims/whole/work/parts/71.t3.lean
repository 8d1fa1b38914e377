/-! RELATION, 11: the next token -/
theorem clH_no {T : Nat → Int32} {s : RS} (h : ¬ s.ki = 1) : clH T s = -1 := by
  unfold clH spB
  simp [h]
def TR (T : Nat → Int32) (s : RS) (m : MS) : Prop := s.be = m.a ∧ s.st = m.p ∧ ((s.ki = 4 ∧ m.tk = 0 ∧ clH T s = -1) ∨ (s.ki = 2 ∧ m.tk = 1 ∧ NR s.nu m.nm ∧ clH T s = -1) ∨ (s.ki = 3 ∧ m.tk = 2 ∧ clH T s = -1) ∨ ((s.ki = 1 ∨ s.ki = 5) ∧ m.tk = 3 ∧ clH T s = -1) ∨ (s.ki = 1 ∧ ∃ c, c < 5 ∧ clH T s = nI c ∧ m.tk = nI (c + 4)))
theorem lenR_le2 (T : Nat → Int32) : ∀ n j, lenR T n j ≤ j + n := by
  intro n
  induction n with
  | zero => intro j; exact Nat.le_refl _
  | succ n ih =>
    intro j
    simp only [lenR]
    split
    · have := ih (j + 1)
      omega
    · omega
theorem tok_rel {T : Nat → Int32} {t : Nat} (hneg : ∀ j, T j < 0 → T j = -1) (ht : t ≤ 120) (hout : ∀ j, t ≤ j → T j = -1) (hsk : ∀ n i, i ≤ t → skipR T n i ≤ t) {s : RS} {m : MS} (he : s.be = m.a) (hle : m.a ≤ t) : TR T (nxC T t s) (nx T t m) := by
  have n1 : ((-1 : Int32) < 0) = True := eq_true (by decide)
  unfold nx nxt nxC
  rw [he]
  have hp := hsk (t + 1 - m.a) m.a hle
  generalize skipR T (t + 1 - m.a) m.a = p at hp
  dsimp only
  by_cases c0 : T p = -1
  · rw [if_pos c0]
    simp only [c0, n1, if_true]
    exact ⟨rfl, rfl, Or.inl ⟨rfl, rfl, clH_no (show ¬ (4 : Int32) = 1 by decide)⟩⟩
  · have c0' : ¬ T p < 0 := fun z => c0 (hneg p z)
    rw [if_neg c0]
    simp only [if_neg c0']
    have hpt : p < t := by
      rcases Nat.lt_or_ge p t with h | h
      · exact h
      · exact absurd (hout p h) c0
    by_cases c2 : dgt (T p) = true
    · have c1 := dgt_ltr c2
      have hd := dig_rel T (t + 1 - p) 0 0 p (Or.inl ⟨0, by decide, rfl, rfl⟩)
      simp only [c1, c2, Bool.false_eq_true, if_true, if_false]
      exact ⟨hd.1, rfl, Or.inr (Or.inl ⟨rfl, rfl, hd.2, clH_no (show ¬ (2 : Int32) = 1 by decide)⟩)⟩
    · by_cases c1 : ltr (T p) = true
      · simp only [c1, c2, Bool.false_eq_true, if_true, if_false]
        rw [let_len]
        obtain ⟨n, hn⟩ : ∃ n, t + 1 - p = n + 1 := ⟨t - p, by omega⟩
        have hq : p < lenR T (t + 1 - p) p := by
          rw [hn]
          simp only [lenR, if_pos c1]
          have := lenR_ge T n (p + 1)
          omega
        have hq2 := lenR_le2 T (t + 1 - p) p
        have hall := lenR_all T (t + 1 - p) p
        have hv := let_val (T := T) (p := p) (L := fun k => (T (p + k)).toNatClampNeg) (by omega) (t + 1 - p) p (Nat.le_refl _)
        generalize hqd : lenR T (t + 1 - p) p = q at hq hq2 hall hv
        have hL : ∀ k, k < q - p → T (p + k) = nI ((T (p + k)).toNatClampNeg) ∧ 65 ≤ (T (p + k)).toNatClampNeg ∧ (T (p + k)).toNatClampNeg ≤ 122 := by
          intro k hk
          obtain ⟨v, h1, h2, h3⟩ := ltr_nat (hall (p + k) (by omega) (by omega))
          rw [h3, nI_clamp (by omega)]
          exact ⟨rfl, h1, h2⟩
        have e4 : (4 : Int32) = nI 4 := by decide
        have w := word_tok (T := T) (s := ((s.s_ki 1).s_st p).s_be q) (L := fun k => (T (p + k)).toNatClampNeg) rfl hq (show q < 1000 by omega) hL
        have ebe : (((s.s_ki 1).s_st p).s_be q).be = q := rfl
        have est : (((s.s_ki 1).s_st p).s_be q).st = p := rfl
        rw [ebe, est] at w
        rw [xI_sub (Nat.le_of_lt hq), e4]
        by_cases c4 : 4 < q - p
        · rw [if_pos (nI_lt c4 (by omega))]
          rcases w with ⟨c, h1, h2, h3, h4⟩ | ⟨h1, h2⟩
          · omega
          · exact ⟨rfl, rfl, Or.inr (Or.inr (Or.inr (Or.inl ⟨Or.inl rfl, rfl, h1⟩)))⟩
        · rw [if_neg (nI_nlt (by omega) (by omega))]
          have hv := hv (by omega) (fun k hk => by
            have := hL k (by omega)
            exact ⟨this.1, by have := this.2.2; omega⟩)
          rw [show p - p = 0 by omega, show nI (valN (fun k => (T (p + k)).toNatClampNeg) 0) = 0 from rfl] at hv
          rw [hv]
          have vb : valN (fun k => (T (p + k)).toNatClampNeg) (q - p) < 2 ^ 28 := by
            have h1 : ∀ i, i ≤ q - p → valN (fun k => (T (p + k)).toNatClampNeg) i < 128 ^ i := by
              intro i
              induction i with
              | zero => intro _; exact Nat.zero_lt_one
              | succ i ih2 =>
                intro hi
                have a := ih2 (by omega)
                have b := (hL i (by omega)).2.2
                rw [Nat.pow_succ]
                simp only [valN]
                omega
            have h2 := h1 (q - p) (Nat.le_refl _)
            have h3 : (128 : Nat) ^ (q - p) ≤ 128 ^ 4 := Nat.pow_le_pow_right (by decide) (by omega)
            have h4 : (128 : Nat) ^ 4 ≤ 2 ^ 28 := by decide
            omega
          rw [wrd_nI vb]
          rcases w with ⟨c, h1, h2, h3, h4⟩ | ⟨h1, h2⟩
          · rw [h4]
            exact ⟨rfl, rfl, Or.inr (Or.inr (Or.inr (Or.inr ⟨rfl, c, h1, h2, rfl⟩)))⟩
          · rw [h2 (by omega)]
            exact ⟨rfl, rfl, Or.inr (Or.inr (Or.inr (Or.inl ⟨Or.inl rfl, rfl, h1⟩)))⟩
      · simp only [c1, c2, if_false]
        by_cases c5 : T p = 59
        · simp only [if_pos c5]
          exact ⟨rfl, rfl, Or.inr (Or.inr (Or.inl ⟨rfl, rfl, clH_no (show ¬ (3 : Int32) = 1 by decide)⟩))⟩
        · simp only [if_neg c5]
          exact ⟨rfl, rfl, Or.inr (Or.inr (Or.inr (Or.inl ⟨Or.inr rfl, rfl, clH_no (show ¬ (5 : Int32) = 1 by decide)⟩)))⟩
theorem nxC_same (T : Nat → Int32) (t : Nat) (s : RS) : (nxC T t s).fl = s.fl ∧ (nxC T t s).pl = s.pl ∧ (nxC T t s).se = s.se ∧ (nxC T t s).la = s.la ∧ (nxC T t s).us = s.us ∧ (nxC T t s).fr = s.fr ∧ (nxC T t s).to = s.to ∧ (nxC T t s).mo = s.mo ∧ (nxC T t s).sh = s.sh := by
  unfold nxC
  repeat' split
  all_goals exact ⟨rfl, rfl, rfl, rfl, rfl, rfl, rfl, rfl, rfl⟩
