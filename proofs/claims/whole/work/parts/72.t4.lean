/-! RELATION, 12: what clauses tell -/
def DT (b : Nat → Bool) (s : RS) (m : MS) : Prop :=
  ((b 0 = true → ∀ l, l < 10 → bitL s.la l = bitI m.la l) ∧ (b 0 = false → s.la = 1023 ∧ m.la = 0)) ∧ ((b 1 = true → ∀ l, l < 5 → bitL s.us l = bitI m.us l) ∧ (b 1 = false → s.us = 31 ∧ m.us = 0)) ∧ ((b 2 = true → s.fr = m.df ∧ s.to = m.dt) ∧ (b 2 = false → s.fr = 0 ∧ s.to = 100000)) ∧ ((b 3 = true → s.mo = m.mo) ∧ (b 3 = false → s.mo = 1000)) ∧ s.sh = m.be
def bT (b : Nat → Bool) (c i : Nat) : Bool := if i = c then true else b i
theorem DT_nx {T : Nat → Int32} {t : Nat} {b : Nat → Bool} {s : RS} {m : MS} (h : DT b s m) : DT b (nxC T t s) (nx T t m) := by
  obtain ⟨-, -, -, e1, e2, e3, e4, e5, e6⟩ := nxC_same T t s
  unfold DT at h ⊢
  rw [e1, e2, e3, e4, e5, e6]
  exact h
theorem ltB_nat {v c : Nat} (hv : v < 2 ^ 31) (hc : c < 2 ^ 31) : ltB (nI v) (nI c) = decide (v < c) := by
  unfold ltB
  have h0 : ¬ nI v < 0 := nI_pos hv
  by_cases e : v < c
  · have : nI v < nI c := nI_lt e hc
    simp [h0, this, e]
  · have : ¬ nI v < nI c := nI_nlt (by omega) hv
    simp [this, e]
theorem inB_p1 {v n : Nat} (hv : v < 2 ^ 31) (hn : n < 2 ^ 31) : inB (nI v) 0 (nI n - 1) = decide (v < n) := by
  by_cases c : v < n
  · rw [inB_nI hn c]
    simp [c]
  · cases e : inB (nI v) 0 (nI n - 1)
    · simp [c]
    · obtain ⟨j, hj, ej⟩ := inB_ix (Nat.le_refl n) hn e
      have := (nI_eq hv (by omega)).mp ej
      omega
theorem orL {x : Int64} {v l : Nat} (hv : v < 64) (hl : l < 64) : bitL (x ||| ((1 : Int64) <<< ((nI v).toInt64 &&& 63))) l = (bitL x l || decide (l = v)) := by rw [bitL_or, bitL_shl hv hl]
theorem orI {x : Int32} {v l : Nat} (hv : v < 32) (hl : l < 32) : bitI (x ||| ((1 : Int32) <<< (nI v &&& 31))) l = (bitI x l || decide (l = v)) := by rw [bitI_or, bitI_shl hv hl]
theorem nI_z {k : Nat} (hk : k < 1000) : (nI k = 0) = (k = 0) := by
  have : (0 : Int32) = nI 0 := rfl
  rw [this, nI_eqc (by omega) (by omega)]
/-- a number that the class takes is told in the reference, and the other way round -/
def TK (nw c k : Nat) (b : Nat → Bool) (s : RS) (m : MS) : Prop := (tkF (nI nw) (nI c) (nI k) s = none ∧ toldB nw (nI (c + 4)) m.nm = false) ∨ (∃ s', tkF (nI nw) (nI c) (nI k) s = some s' ∧ toldB nw (nI (c + 4)) m.nm = true ∧ DT (bT b c) s' (keepF (nI (c + 4)) m) ∧ s'.fl = s.fl ∧ s'.se = s.se)
theorem bT_ne {b : Nat → Bool} {c k i : Nat} (h : ¬ i = c) : (if k = 0 then b else bT b c) i = bT b c i := by
  by_cases ck : k = 0
  · rw [if_pos ck]
    simp [bT, h]
  · rw [if_neg ck]
theorem take_land {k nw : Nat} {b : Nat → Bool} {s : RS} {m : MS} (hk : k < 1000) (hN : NR s.nu m.nm) (hD : DT (if k = 0 then b else bT b 0) s m) (hb : b 0 = false) : TK nw 0 k b s m := by
  have t1 : tkF (nI nw) (nI 0) (nI k) s = if ltB s.nu (nI 10) = true then some (s.s_la ((if nI k = 0 then 0 else s.la) ||| ((1 : Int64) <<< (s.nu.toInt64 &&& 63)))) else none := rfl
  have t2 : toldB nw (nI (0 + 4)) m.nm = inB m.nm (nI 0) (nI 9) := rfl
  have t3 : keepF (nI (0 + 4)) m = m.s_la (m.la ||| ((1 : Int32) <<< (m.nm &&& 31))) := rfl
  unfold TK
  rw [t1, t2, t3]
  rcases hN with ⟨v, hv, h1, h2⟩ | ⟨h1, v, h2, h3, h4⟩
  · rw [h1, h2, ltB_nat (by omega) (by decide), nat_inB (by omega) (by decide) (by decide)]
    by_cases cv : v < 10
    · refine Or.inr ⟨s.s_la ((if nI k = 0 then 0 else s.la) ||| ((1 : Int64) <<< ((nI v).toInt64 &&& 63))), by rw [if_pos (by simp [cv])], by simp; omega, ?_, rfl, rfl⟩
      obtain ⟨d0, d1, d2, d3, d4⟩ := hD
      rw [bT_ne (by decide)] at d1 d2 d3
      refine ⟨⟨fun _ l hl => ?_, fun z => by simp [bT] at z⟩, d1, d2, d3, d4⟩
      show bitL ((if nI k = 0 then 0 else s.la) ||| ((1 : Int64) <<< ((nI v).toInt64 &&& 63))) l = bitI (m.la ||| ((1 : Int32) <<< (nI v &&& 31))) l
      rw [orL (by omega) (by omega), orI (by omega) (by omega)]
      by_cases ck : k = 0
      · have := d0.2 (by rw [if_pos ck]; exact hb)
        rw [if_pos ((nI_z hk).mpr ck), this.2, bitL_0, bitI_0]
      · have := d0.1 (by rw [if_neg ck]; rfl) l hl
        rw [if_neg (fun z => ck ((nI_z hk).mp z)), this]
    · exact Or.inl ⟨by rw [if_neg (by simp [cv])], by simp; omega⟩
  · exact Or.inl ⟨by rw [h1, ltB_nat (by decide) (by decide), if_neg (by decide)], by rw [h4, nat_inB (by omega) (by decide) (by decide)]; simp; omega⟩
theorem take_use {k nw : Nat} {b : Nat → Bool} {s : RS} {m : MS} (hk : k < 1000) (hN : NR s.nu m.nm) (hD : DT (if k = 0 then b else bT b 1) s m) (hb : b 1 = false) : TK nw 1 k b s m := by
  have t1 : tkF (nI nw) (nI 1) (nI k) s = if ltB s.nu (nI 5) = true then some (s.s_us ((if nI k = 0 then 0 else s.us) ||| ((1 : Int64) <<< (s.nu.toInt64 &&& 63)))) else none := rfl
  have t2 : toldB nw (nI (1 + 4)) m.nm = inB m.nm (nI 0) (nI 4) := rfl
  have t3 : keepF (nI (1 + 4)) m = m.s_us (m.us ||| ((1 : Int32) <<< (m.nm &&& 31))) := rfl
  unfold TK
  rw [t1, t2, t3]
  rcases hN with ⟨v, hv, h1, h2⟩ | ⟨h1, v, h2, h3, h4⟩
  · rw [h1, h2, ltB_nat (by omega) (by decide), nat_inB (by omega) (by decide) (by decide)]
    by_cases cv : v < 5
    · refine Or.inr ⟨s.s_us ((if nI k = 0 then 0 else s.us) ||| ((1 : Int64) <<< ((nI v).toInt64 &&& 63))), by rw [if_pos (by simp [cv])], by simp; omega, ?_, rfl, rfl⟩
      obtain ⟨d0, d1, d2, d3, d4⟩ := hD
      rw [bT_ne (by decide)] at d0 d2 d3
      refine ⟨d0, ⟨fun _ l hl => ?_, fun z => by simp [bT] at z⟩, d2, d3, d4⟩
      show bitL ((if nI k = 0 then 0 else s.us) ||| ((1 : Int64) <<< ((nI v).toInt64 &&& 63))) l = bitI (m.us ||| ((1 : Int32) <<< (nI v &&& 31))) l
      rw [orL (by omega) (by omega), orI (by omega) (by omega)]
      by_cases ck : k = 0
      · have := d1.2 (by rw [if_pos ck]; exact hb)
        rw [if_pos ((nI_z hk).mpr ck), this.2, bitL_0, bitI_0]
      · have := d1.1 (by rw [if_neg ck]; rfl) l hl
        rw [if_neg (fun z => ck ((nI_z hk).mp z)), this]
    · exact Or.inl ⟨by rw [if_neg (by simp [cv])], by simp; omega⟩
  · exact Or.inl ⟨by rw [h1, ltB_nat (by decide) (by decide), if_neg (by decide)], by rw [h4, nat_inB (by omega) (by decide) (by decide)]; simp; omega⟩
theorem take_not {k nw : Nat} {b : Nat → Bool} {s : RS} {m : MS} (hnw : nw ≤ 40) (hN : NR s.nu m.nm) (hD : DT (if k = 0 then b else bT b 4) s m) : TK nw 4 k b s m := by
  have t1 : tkF (nI nw) (nI 4) (nI k) s = if ltB s.nu (nI nw) = true then some (s.s_sh (s.sh ||| ((1 : Int64) <<< (s.nu.toInt64 &&& 63)))) else none := rfl
  have t2 : toldB nw (nI (4 + 4)) m.nm = inB m.nm 0 (nI nw - 1) := rfl
  have t3 : keepF (nI (4 + 4)) m = m.s_be (m.be ||| ((1 : Int64) <<< (m.nm.toInt64 &&& 63))) := rfl
  unfold TK
  rw [t1, t2, t3]
  rcases hN with ⟨v, hv, h1, h2⟩ | ⟨h1, v, h2, h3, h4⟩
  · rw [h1, h2, ltB_nat (by omega) (by omega), inB_p1 (by omega) (by omega)]
    by_cases cv : v < nw
    · refine Or.inr ⟨s.s_sh (s.sh ||| ((1 : Int64) <<< ((nI v).toInt64 &&& 63))), by rw [if_pos (by simp [cv])], by simp [cv], ?_, rfl, rfl⟩
      obtain ⟨d0, d1, d2, d3, d4⟩ := hD
      rw [bT_ne (by decide)] at d0 d1 d2 d3
      refine ⟨d0, d1, d2, d3, ?_⟩
      show s.sh ||| _ = m.be ||| _
      rw [d4]
    · exact Or.inl ⟨by rw [if_neg (by simp [cv])], by simp [cv]⟩
  · exact Or.inl ⟨by rw [h1, ltB_nat (by decide) (by omega), if_neg (by simp; omega)], by rw [h4, inB_p1 (by omega) (by omega)]; simp; omega⟩
theorem take_most {nw : Nat} {b : Nat → Bool} {s : RS} {m : MS} (hN : NR s.nu m.nm) (hD : DT b s m) : TK nw 3 0 b s m := by
  have t1 : tkF (nI nw) (nI 3) (nI 0) s = if inB s.nu (nI 1) (nI 1000) = true then some (s.s_mo s.nu) else none := rfl
  have t2 : toldB nw (nI (3 + 4)) m.nm = inB m.nm (nI 1) (nI 1000) := rfl
  have t3 : keepF (nI (3 + 4)) m = m.s_mo m.nm := rfl
  unfold TK
  rw [t1, t2, t3]
  rcases hN with ⟨v, hv, h1, h2⟩ | ⟨h1, v, h2, h3, h4⟩
  · cases cv : inB (nI v) (nI 1) (nI 1000)
    · exact Or.inl ⟨by rw [h1, cv]; rfl, by rw [h2, cv]⟩
    · refine Or.inr ⟨s.s_mo s.nu, by rw [h1, cv]; rfl, by rw [h2, cv], ?_, rfl, rfl⟩
      obtain ⟨d0, d1, d2, d3, d4⟩ := hD
      exact ⟨d0, d1, d2, ⟨fun _ => by show s.nu = m.nm; rw [h1, h2], fun z => by simp [bT] at z⟩, d4⟩
  · exact Or.inl ⟨by rw [h1, nat_inB (by decide) (by decide) (by decide)]; rfl, by rw [h4, nat_inB (by omega) (by decide) (by decide)]; simp; omega⟩
