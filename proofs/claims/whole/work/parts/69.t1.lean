/-! RELATION, 9: tokens -/
theorem shl_or {x y : Nat} (hx : x < 2 ^ 24) (hy : y < 128) : (nI x <<< ((7 : Int32) &&& 31)) ||| nI y = nI (x * 128 + y) := by
  apply Int32.toBitVec_inj.mp
  apply BitVec.eq_of_toNat_eq
  rw [Int32.toBitVec_or, BitVec.toNat_or, Int32.toBitVec_shiftLeft]
  have e : ((7 : Int32) &&& 31).toBitVec.smod 32 = 7#32 := by decide
  show (BitVec.ofNat 32 x <<< (((7 : Int32) &&& 31).toBitVec.smod 32)).toNat ||| (BitVec.ofNat 32 y).toNat = (BitVec.ofNat 32 (x * 128 + y)).toNat
  rw [e, BitVec.shiftLeft_eq', BitVec.toNat_shiftLeft]
  simp only [BitVec.toNat_ofNat]
  rw [Nat.mod_eq_of_lt (show x < 2 ^ 32 by omega), Nat.mod_eq_of_lt (show y < 2 ^ 32 by omega), Nat.mod_eq_of_lt (show x * 128 + y < 2 ^ 32 by omega)]
  have e7 : (7 % 2 ^ 32) = 7 := by decide
  rw [e7]
  have h1 : x <<< 7 = x * 128 := by rw [Nat.shiftLeft_eq]
  rw [Nat.mod_eq_of_lt (by rw [h1]; omega), ← Nat.shiftLeft_add_eq_or_of_lt (show y < 2 ^ 7 by omega), h1]
theorem pak_nI {a b c d : Nat} (ha : a < 128) (hb : b < 128) (hc : c < 128) (hd : d < 128) : pak (nI a) (nI b) (nI c) (nI d) = nI (((a * 128 + b) * 128 + c) * 128 + d) := by
  unfold pak
  rw [shl_or (by omega) hb, shl_or (by omega) hc, shl_or (by omega) hd]
def wrdN (v : Nat) : Nat := if v = ((108 * 128 + 97) * 128 + 110) * 128 + 100 then 4 else if v = (117 * 128 + 115) * 128 + 101 then 5 else if v = ((100 * 128 + 97) * 128 + 121) * 128 + 115 then 6 else if v = ((109 * 128 + 111) * 128 + 115) * 128 + 116 then 7 else if v = (110 * 128 + 111) * 128 + 116 then 8 else 3
theorem wrd_nI {v : Nat} (hv : v < 2 ^ 28) : wrdOf (nI v) = nI (wrdN v) := by
  have p1 : pak 108 97 110 100 = nI (((108 * 128 + 97) * 128 + 110) * 128 + 100) := pak_nI (by decide) (by decide) (by decide) (by decide)
  have p2 : pak 0 117 115 101 = nI ((117 * 128 + 115) * 128 + 101) := pak_nI (a := 0) (by decide) (by decide) (by decide) (by decide)
  have p3 : pak 100 97 121 115 = nI (((100 * 128 + 97) * 128 + 121) * 128 + 115) := pak_nI (by decide) (by decide) (by decide) (by decide)
  have p4 : pak 109 111 115 116 = nI (((109 * 128 + 111) * 128 + 115) * 128 + 116) := pak_nI (by decide) (by decide) (by decide) (by decide)
  have p5 : pak 0 110 111 116 = nI ((110 * 128 + 111) * 128 + 116) := pak_nI (a := 0) (by decide) (by decide) (by decide) (by decide)
  unfold wrdOf wrdN
  rw [p1, p2, p3, p4, p5]
  simp only [nI_eqc (show v < 2 ^ 31 by omega) (show (((108 * 128 + 97) * 128 + 110) * 128 + 100) < 2 ^ 31 by decide), nI_eqc (show v < 2 ^ 31 by omega) (show ((117 * 128 + 115) * 128 + 101) < 2 ^ 31 by decide), nI_eqc (show v < 2 ^ 31 by omega) (show (((100 * 128 + 97) * 128 + 121) * 128 + 115) < 2 ^ 31 by decide), nI_eqc (show v < 2 ^ 31 by omega) (show (((109 * 128 + 111) * 128 + 115) * 128 + 116) < 2 ^ 31 by decide), nI_eqc (show v < 2 ^ 31 by omega) (show ((110 * 128 + 111) * 128 + 116) < 2 ^ 31 by decide)]
  repeat' split
  all_goals rfl
theorem inB_nat {x : Int32} {lo hi : Nat} (hlo : lo < 2 ^ 31) (hhi : hi < 2 ^ 31) (h : inB x (nI lo) (nI hi) = true) : ∃ v, lo ≤ v ∧ v ≤ hi ∧ x = nI v := by
  simp only [inB, Bool.and_eq_true, Bool.not_eq_true', decide_eq_false_iff_not] at h
  have h0 : ¬ x < 0 := fun z => h.1 (Int32.lt_of_lt_of_le z (Int32.not_lt.mp (nI_pos hlo)))
  obtain ⟨j, hj, rfl⟩ := nI_of h0
  exact ⟨j, Nat.not_lt.mp fun z => h.1 (nI_lt z hlo), Nat.not_lt.mp fun z => h.2 (nI_lt z hj), rfl⟩
theorem nat_inB {v lo hi : Nat} (hv : v < 2 ^ 31) (hlo : lo < 2 ^ 31) (hhi : hi < 2 ^ 31) : inB (nI v) (nI lo) (nI hi) = (decide (lo ≤ v) && decide (v ≤ hi)) := by
  unfold inB
  by_cases c1 : lo ≤ v
  · have : ¬ nI v < nI lo := nI_nlt c1 hv
    by_cases c2 : v ≤ hi
    · have : ¬ nI hi < nI v := nI_nlt c2 hhi
      simp [*]
    · have : nI hi < nI v := nI_lt (by omega) hv
      simp [*]
  · have : nI v < nI lo := nI_lt (by omega) hlo
    simp [*]
theorem ltr_nat {x : Int32} (h : ltr x = true) : ∃ v, 65 ≤ v ∧ v ≤ 122 ∧ x = nI v := by
  unfold ltr at h
  rw [Bool.or_eq_true] at h
  rcases h with h | h
  · obtain ⟨v, a, b, c⟩ := inB_nat (lo := 97) (hi := 122) (by decide) (by decide) h
    exact ⟨v, by omega, by omega, c⟩
  · obtain ⟨v, a, b, c⟩ := inB_nat (lo := 65) (hi := 90) (by decide) (by decide) h
    exact ⟨v, by omega, by omega, c⟩
theorem dgt_nat {x : Int32} (h : dgt x = true) : ∃ d, d < 10 ∧ x = nI (48 + d) := by
  obtain ⟨v, a, b, c⟩ := inB_nat (lo := 48) (hi := 57) (by decide) (by decide) h
  exact ⟨v - 48, by omega, by rw [c]; congr 1; omega⟩
theorem dgt_ltr {x : Int32} (h : dgt x = true) : ltr x = false := by
  obtain ⟨d, hd, rfl⟩ := dgt_nat h
  have : ∀ d : Fin 10, ltr (nI (48 + d.1)) = false := by decide
  exact this ⟨d, hd⟩
/-- the class's number and the reference's -/
def NR (a b : Int32) : Prop := (∃ v, v ≤ 100000 ∧ a = nI v ∧ b = nI v) ∨ (a = nI 100001 ∧ ∃ v, 100000 < v ∧ v < 100000000 ∧ b = nI v)
theorem NR_step {a b : Int32} {d : Nat} (hd : d < 10) (h : NR a b) : NR (capN a (nI (48 + d))) (if b < 1000000 then 10 * b + nI (48 + d) - 48 else b) := by
  have e10 : (10 : Int32) = nI 10 := by decide
  have e48 : (48 : Int32) = nI 48 := by decide
  have eM : (1000000 : Int32) = nI 1000000 := by decide
  have eL : (100001 : Int32) = nI 100001 := by decide
  unfold capN
  rw [e10, e48, eM, eL]
  rcases h with ⟨v, hv, rfl, rfl⟩ | ⟨rfl, v, h1, h2, rfl⟩
  · have c : nI v < nI 1000000 := nI_lt (by omega) (by omega)
    rw [if_pos c, pk_mul, pk_mul, nI_add, nI_add, xI_sub (by omega), xI_sub (by omega)]
    by_cases c2 : 100001 < v * 10 + (48 + d) - 48
    · rw [if_pos (nI_lt c2 (by omega))]
      exact Or.inr ⟨rfl, 10 * v + (48 + d) - 48, by omega, by omega, rfl⟩
    · rw [if_neg (nI_nlt (by omega) (by omega))]
      by_cases c3 : v * 10 + (48 + d) - 48 ≤ 100000
      · exact Or.inl ⟨v * 10 + (48 + d) - 48, c3, rfl, by congr 1; omega⟩
      · exact Or.inr ⟨by congr 1; omega, 10 * v + (48 + d) - 48, by omega, by omega, rfl⟩
  · have cc : nI 100001 < nI (100001 * 10 + (48 + d) - 48) := nI_lt (by omega) (by omega)
    rw [pk_mul, nI_add, xI_sub (by omega), if_pos cc]
    by_cases c : v < 1000000
    · rw [if_pos (nI_lt c (by omega)), pk_mul, nI_add, xI_sub (by omega)]
      exact Or.inr ⟨rfl, 10 * v + (48 + d) - 48, by omega, by omega, rfl⟩
    · rw [if_neg (nI_nlt (by omega) (by omega))]
      exact Or.inr ⟨rfl, v, h1, h2, rfl⟩
theorem dig_rel (T : Nat → Int32) : ∀ n a b j, NR a b → (digC T n a j).2 = (digR T n b j).2 ∧ NR (digC T n a j).1 (digR T n b j).1 := by
  intro n
  induction n with
  | zero => intro a b j h; exact ⟨rfl, h⟩
  | succ n ih =>
    intro a b j h
    simp only [digC, digR]
    by_cases c : dgt (T j) = true
    · rw [if_pos c, if_pos c]
      obtain ⟨d, hd, e⟩ := dgt_nat c
      have := NR_step hd h
      rw [← e] at this
      exact ih _ _ _ this
    · rw [if_neg c, if_neg c]
      exact ⟨rfl, h⟩
theorem let_len (T : Nat → Int32) (y : Int32) : ∀ n w j, (letR T y n w j).2 = lenR T n j := by
  intro n
  induction n with
  | zero => intro w j; rfl
  | succ n ih =>
    intro w j
    simp only [letR, lenR]
    by_cases c : ltr (T j) = true
    · rw [if_pos c, if_pos c]
      exact ih _ _
    · rw [if_neg c, if_neg c]
