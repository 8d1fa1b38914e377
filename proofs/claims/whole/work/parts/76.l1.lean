/-! RELATION, 16: what a text lets -/
/-- the Terms s stand to the reference's row: clauses cl, lands la, .. -/
def TmR (s : RS) (cl la us df dt mo : Int32) (be : Int64) : Prop :=
  ((bitI cl 4 = true → ∀ l, l < 10 → bitL s.la l = bitI la l) ∧ (bitI cl 4 = false → s.la = 1023)) ∧ ((bitI cl 5 = true → ∀ l, l < 5 → bitL s.us l = bitI us l) ∧ (bitI cl 5 = false → s.us = 31)) ∧ ((bitI cl 6 = true → s.fr = df ∧ s.to = dt) ∧ (bitI cl 6 = false → s.fr = 0 ∧ s.to = 100000)) ∧ ((bitI cl 7 = true → s.mo = mo) ∧ (bitI cl 7 = false → s.mo = 1000)) ∧ s.sh = be
theorem TmR_of {s : RS} {m : MS} (h : DT (bC m.cl) s m) : TmR s m.cl m.la m.us m.df m.dt m.mo m.be := by
  obtain ⟨h0, h1, h2, h3, h4⟩ := h
  exact ⟨⟨h0.1, fun z => (h0.2 z).1⟩, ⟨h1.1, fun z => (h1.2 z).1⟩, h2, h3, h4⟩
theorem fstR_ext {a b : Nat → Bool} : ∀ c s, (∀ j, s ≤ j → j < s + c → a j = b j) → fstR a s c = fstR b s c := by
  intro c
  induction c with
  | zero => intro s _; rfl
  | succ c ih =>
    intro s h
    simp only [fstR, h s (Nat.le_refl _) (by omega), ih (s + 1) (fun j h1 h2 => h j (by omega) (by omega))]
theorem fstR_no {a : Nat → Bool} : ∀ c s, (∀ j, s ≤ j → j < s + c → a j = false) → fstR a s c = none := by
  intro c
  induction c with
  | zero => intro s _; rfl
  | succ c ih =>
    intro s h
    simp only [fstR, h s (Nat.le_refl _) (by omega), Bool.false_eq_true, if_false]
    exact ih (s + 1) (fun j h1 h2 => h j (by omega) (by omega))
theorem fstR_tail {a : Nat → Bool} {d : Nat} : ∀ c s, (∀ j, s + c ≤ j → j < s + c + d → a j = false) → fstR a s (c + d) = fstR a s c := by
  intro c
  induction c with
  | zero =>
    intro s h
    rw [Nat.zero_add]
    exact fstR_no d s (fun j h1 h2 => h j (by omega) (by omega))
  | succ c ih =>
    intro s h
    rw [show c + 1 + d = (c + d) + 1 by omega]
    simp only [fstR]
    rw [ih (s + 1) (fun j h1 h2 => h j (by omega) (by omega))]
theorem all_L : (∀ l : Fin 10, bitL 1023 l.1 = true) ∧ (∀ l : Fin 5, bitL 31 l.1 = true) := by decide +kernel
/-- a text lets a use on both sides alike -/
theorem lets_eq {σ : am_H} {nw j : Nat} {s : RS} {land use size word : Int32} {ch : Int64} {isO : Nat → Bool} (hR : TmR s (ga σ 62 j) (ga σ 63 j) (ga σ 64 j) (ga σ 65 j) (ga σ 66 j) (ga σ 67 j) (gL σ 68 j)) (hl : inB land 0 9 = true) (hu : inB use 0 4 = true) (hz : inB size 1 1000 = true) (hck : inB (gi σ 40 11 0) 0 100000 = true) (hnw : nw ≤ 40) (hch : ∀ w, w < 64 → bitL ch w = (decide (w < nw) && (!decide (word < 0) && isO w))) : alw s land use size (gi σ 40 11 0) ch = mLets σ nw j land use size word isO := by
  obtain ⟨l, -, hl2, rfl⟩ := inB_nat (lo := 0) (hi := 9) (by decide) (by decide) hl
  obtain ⟨u, -, hu2, rfl⟩ := inB_nat (lo := 0) (hi := 4) (by decide) (by decide) hu
  obtain ⟨⟨a1, a2⟩, ⟨b1, b2⟩, ⟨c1, c2⟩, ⟨d1, d2⟩, e⟩ := hR
  have tel : ∀ w : Nat, w < 32 → mTel σ j (nI w) = bitI (ga σ 62 j) w := by
    intro w hw
    unfold mTel
    cases h : bitI (ga σ 62 j) w
    · exact decide_eq_false (fun z => by have := (shr1_It _ hw).mp z; rw [h] at this; cases this)
    · exact decide_eq_true ((shr1_It _ hw).mpr h)
  have z0 : ∀ (x : Int32) (w : Nat), w < 32 → decide ((x >>> (nI w &&& 31)) &&& 1 = 0) = !bitI x w := by
    intro x w hw
    cases h : bitI x w
    · exact decide_eq_true ((shr0_I _ hw).mpr h)
    · exact decide_eq_false (fun z => by have := (shr0_I _ hw).mp z; rw [h] at this; cases this)
  have p1 : hldB s.la (nI l) = !(mTel σ j 4 && decide ((ga σ 63 j >>> (nI l &&& 31)) &&& 1 = 0)) := by
    rw [hld_nI _ (by omega), show (4 : Int32) = nI 4 from rfl, tel 4 (by decide), z0 _ l (by omega)]
    cases h : bitI (ga σ 62 j) 4
    · rw [a2 h]
      have := all_L.1 ⟨l, by omega⟩
      simpa using this
    · rw [a1 h l (by omega)]
      simp
  have p2 : hldB s.us (nI u) = !(mTel σ j 5 && decide ((ga σ 64 j >>> (nI u &&& 31)) &&& 1 = 0)) := by
    rw [hld_nI _ (by omega), show (5 : Int32) = nI 5 from rfl, tel 5 (by decide), z0 _ u (by omega)]
    cases h : bitI (ga σ 62 j) 5
    · rw [b2 h]
      have := all_L.2 ⟨u, by omega⟩
      simpa using this
    · rw [b1 h u (by omega)]
      simp
  have p3 : (!decide (gi σ 40 11 0 < s.fr) && !decide (s.to < gi σ 40 11 0)) = !(mTel σ j 6 && !inB (gi σ 40 11 0) (ga σ 65 j) (ga σ 66 j)) := by
    rw [show (6 : Int32) = nI 6 from rfl, tel 6 (by decide)]
    cases h : bitI (ga σ 62 j) 6
    · rw [(c2 h).1, (c2 h).2]
      have : inB (gi σ 40 11 0) 0 100000 = true := hck
      unfold inB at this
      simp only [Bool.false_and, Bool.not_false]
      exact this
    · rw [(c1 h).1, (c1 h).2]
      unfold inB
      simp
  have p4 : (!decide (s.mo < size)) = !(mTel σ j 7 && decide (ga σ 67 j < size)) := by
    rw [show (7 : Int32) = nI 7 from rfl, tel 7 (by decide)]
    cases h : bitI (ga σ 62 j) 7
    · rw [d2 h]
      simp only [inB, Bool.and_eq_true, Bool.not_eq_true', decide_eq_false_iff_not] at hz
      simp [hz.2]
    · rw [d1 h]
      simp
  have p5 : decide (s.sh &&& ch = 0) = !(!decide (word < 0) && anyR (fun w => mShun σ j w && isO w) 0 nw) := by
    have sh : ∀ w, w < 64 → mShun σ j w = bitL s.sh w := by
      intro w hw
      unfold mShun
      rw [e]
      cases h : bitL (gL σ 68 j) w
      · exact decide_eq_false (fun z => by have := (shr1_Lt _ hw).mp z; rw [h] at this; cases this)
      · exact decide_eq_true ((shr1_Lt _ hw).mpr h)
    apply bool_ext
    rw [decide_eq_true_eq, bitL_z]
    constructor
    · intro h
      cases hw : (!decide (word < 0) && anyR (fun w => mShun σ j w && isO w) 0 nw)
      · rfl
      · exfalso
        rw [Bool.and_eq_true, anyR_iff] at hw
        obtain ⟨h1, w, -, h2, h3⟩ := hw
        rw [Bool.and_eq_true, sh w (by omega)] at h3
        have := h w (by omega)
        rw [bitL_and, h3.1, hch w (by omega), h1, h3.2] at this
        have lt : w < nw := by omega
        simp [lt] at this
    · intro h w hw
      rw [bitL_and, hch w hw]
      cases h1 : bitL s.sh w
      · rfl
      · cases h2 : (decide (w < nw) && (!decide (word < 0) && isO w))
        · rfl
        · exfalso
          simp only [Bool.and_eq_true, decide_eq_true_eq] at h2
          have : (!decide (word < 0) && anyR (fun w => mShun σ j w && isO w) 0 nw) = true := by
            rw [Bool.and_eq_true, anyR_iff]
            exact ⟨h2.2.1, w, Nat.zero_le _, by omega, by rw [Bool.and_eq_true, sh w hw]; exact ⟨h1, h2.2.2⟩⟩
          rw [this] at h
          cases h
  unfold alw mLets
  rw [← p1, ← p2, ← p3, ← p4, ← p5]
  cases hldB s.la (nI l) <;> cases hldB s.us (nI u) <;> cases decide (s.mo < size) <;> cases decide (gi σ 40 11 0 < s.fr) <;> cases decide (s.to < gi σ 40 11 0) <;> cases decide (s.sh &&& ch = 0) <;> rfl
