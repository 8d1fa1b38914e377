/-! RELATION, 13: numbers of a clause -/
section NM
variable {σ : am_H} {t nw : Nat}
theorem TR_num {T : Nat → Int32} {s : RS} {m : MS} (h : TR T s m) (hk : m.tk = 1) : s.ki = 2 ∧ NR s.nu m.nm := by
  obtain ⟨-, -, h⟩ := h
  rcases h with ⟨-, e, -⟩ | ⟨a, -, b, -⟩ | ⟨-, e, -⟩ | ⟨-, e, -⟩ | ⟨-, c, hc, -, e⟩
  · rw [e] at hk; exact absurd hk (by decide)
  · exact ⟨a, b⟩
  · rw [e] at hk; exact absurd hk (by decide)
  · rw [e] at hk; exact absurd hk (by decide)
  · rw [e, show (1 : Int32) = nI 1 from rfl, nI_eq (by omega) (by omega)] at hk
    omega
theorem TR_not {T : Nat → Int32} {s : RS} {m : MS} (h : TR T s m) (hk : ¬ m.tk = 1) : ¬ s.ki = 2 := by
  obtain ⟨-, -, h⟩ := h
  intro z
  rcases h with ⟨e, -⟩ | ⟨-, b, -⟩ | ⟨e, -⟩ | ⟨e, -⟩ | ⟨e, -⟩
  · rw [e] at z; exact absurd z (by decide)
  · exact hk b
  · rw [e] at z; exact absurd z (by decide)
  · rcases e with e | e <;> rw [e] at z <;> exact absurd z (by decide)
  · rw [e] at z; exact absurd z (by decide)
theorem TR_stop {T : Nat → Int32} {s : RS} {m : MS} (h : TR T s m) : s.ki = 3 ↔ m.tk = 2 := by
  obtain ⟨-, -, h⟩ := h
  rcases h with ⟨e, f, -⟩ | ⟨e, f, -⟩ | ⟨e, f, -⟩ | ⟨e, f, -⟩ | ⟨e, c, hc, -, f⟩
  · rw [e, f]; decide
  · rw [e, f]; decide
  · rw [e, f]; decide
  · rcases e with e | e <;> rw [e, f] <;> decide
  · rw [e, f]
    exact ⟨fun z => absurd z (by decide), fun z => by rw [show (2 : Int32) = nI 2 from rfl, nI_eq (by omega) (by omega)] at z; omega⟩
theorem TR_end {T : Nat → Int32} {s : RS} {m : MS} (h : TR T s m) : s.ki = 4 ↔ m.tk = 0 := by
  obtain ⟨-, -, h⟩ := h
  rcases h with ⟨e, f, -⟩ | ⟨e, f, -⟩ | ⟨e, f, -⟩ | ⟨e, f, -⟩ | ⟨e, c, hc, -, f⟩
  · rw [e, f]; decide
  · rw [e, f]; decide
  · rw [e, f]; decide
  · rcases e with e | e <;> rw [e, f] <;> decide
  · rw [e, f]
    exact ⟨fun z => absurd z (by decide), fun z => by rw [show (0 : Int32) = nI 0 from rfl, nI_eq (by omega) (by omega)] at z; omega⟩
theorem tokR (hneg : ∀ j, mSee σ t j < 0 → mSee σ t j = -1) (ht : t ≤ 120) {s : RS} {m : MS} (he : s.be = m.a) (hle : m.a ≤ t) : TR (mSee σ t) (nxC (mSee σ t) t s) (nx (mSee σ t) t m) :=
  tok_rel hneg ht (fun j hj => by unfold mSee; rw [if_neg (by omega)]) (fun n i hi => (skipR_le n i hi).1) he hle
theorem keepF_cl (w : Int32) (m : MS) : (keepF w m).cl = m.cl := by
  unfold keepF
  repeat' split
  all_goals rfl
theorem TK_of {c k : Nat} {b : Nat → Bool} {s : RS} {m : MS} (hc : c = 0 ∨ c = 1 ∨ c = 4) (hb : c < 4 → b c = false) (hk : k < 1000) (hnw : nw ≤ 40) (hN : NR s.nu m.nm) (hD : DT (if k = 0 then b else bT b c) s m) : TK nw c k b s m := by
  rcases hc with rfl | rfl | rfl
  · exact take_land hk hN hD (hb (by decide))
  · exact take_use hk hN hD (hb (by decide))
  · exact take_not hnw hN hD
theorem many_rel (hneg : ∀ j, mSee σ t j < 0 → mSee σ t j = -1) (ht : t ≤ 120) (hnw : nw ≤ 40) {c : Nat} {b : Nat → Bool} (hc : c = 0 ∨ c = 1 ∨ c = 4) (hb : c < 4 → b c = false) : ∀ f g k s m, m.tk = 1 → TR (mSee σ t) s m → DT (if k = 0 then b else bT b c) s m → k < m.a → m.a ≤ t → t + 1 ≤ f + m.a → k + g = 120 →
    (((numR (mSee σ t) t nw (nI (c + 4)) f m).1 = 0 ∧ (rnF (mSee σ t) t (nI nw) (nI c) g k s).1 = true ∧ 1 ≤ (rnF (mSee σ t) t (nI nw) (nI c) g k s).2.1 ∧ TR (mSee σ t) (rnF (mSee σ t) t (nI nw) (nI c) g k s).2.2 (numR (mSee σ t) t nw (nI (c + 4)) f m).2 ∧ DT (bT b c) (rnF (mSee σ t) t (nI nw) (nI c) g k s).2.2 (numR (mSee σ t) t nw (nI (c + 4)) f m).2 ∧ (numR (mSee σ t) t nw (nI (c + 4)) f m).2.a ≤ t ∧ (rnF (mSee σ t) t (nI nw) (nI c) g k s).2.2.fl = s.fl ∧ (rnF (mSee σ t) t (nI nw) (nI c) g k s).2.2.se = s.se ∧ (numR (mSee σ t) t nw (nI (c + 4)) f m).2.cl = m.cl) ∨
     ((numR (mSee σ t) t nw (nI (c + 4)) f m).1 = 3 ∧ (rnF (mSee σ t) t (nI nw) (nI c) g k s).1 = false ∧ (rnF (mSee σ t) t (nI nw) (nI c) g k s).2.2.fl = 3 ∧ (rnF (mSee σ t) t (nI nw) (nI c) g k s).2.2.pl = nI (numR (mSee σ t) t nw (nI (c + 4)) f m).2.p)) := by
  have w6 : ¬ nI (c + 4) = 6 := by
    rw [show (6 : Int32) = nI 6 from rfl, nI_eq (by omega) (by omega)]
    omega
  have w7 : ¬ nI (c + 4) = 7 := by
    rw [show (7 : Int32) = nI 7 from rfl, nI_eq (by omega) (by omega)]
    omega
  intro f
  induction f with
  | zero => intro g k s m _ _ _ _ h1 h2; omega
  | succ f ih =>
    intro g k s m hk hT hD hka hat hf hg
    obtain ⟨g', rfl⟩ : ∃ g', g = g' + 1 := ⟨g - 1, by omega⟩
    obtain ⟨n1, n2⟩ := TR_num hT hk
    rcases TK_of hc hb (show k < 1000 by omega) hnw n2 hD with ⟨t1, t2⟩ | ⟨s', t1, t2, t3, t4, t5⟩
    · right
      have e1 : rnF (mSee σ t) t (nI nw) (nI c) (g' + 1) k s = (false, k, failF 3 s) := by simp only [rnF, n1, t1, if_true, Option.elim_none]
      have e2 : numR (mSee σ t) t nw (nI (c + 4)) (f + 1) m = (3, m) := by simp only [numR, t2, Bool.false_eq_true, if_false]
      rw [e1, e2]
      refine ⟨rfl, rfl, rfl, ?_⟩
      show nI s.st = nI m.p
      rw [hT.2.1]
    · have e1 : rnF (mSee σ t) t (nI nw) (nI c) (g' + 1) k s = rnF (mSee σ t) t (nI nw) (nI c) g' (k + 1) (nxC (mSee σ t) t s') := by simp only [rnF, n1, t1, if_true, Option.elim_some]
      have hbe : s'.be = (keepF (nI (c + 4)) m).a := by rw [(tkF_be t1).1, keepF_a]; exact hT.1
      have hka2 : (keepF (nI (c + 4)) m).a ≤ t := by rw [keepF_a]; exact hat
      have hT' := tokR hneg ht hbe hka2
      have hD' := DT_nx (T := mSee σ t) (t := t) t3
      have sm := nxC_same (mSee σ t) t s'
      have hle := nx_le (σ := σ) _ hka2
      by_cases cm : (nx (mSee σ t) t (keepF (nI (c + 4)) m)).tk = 1
      · have e2 : numR (mSee σ t) t nw (nI (c + 4)) (f + 1) m = numR (mSee σ t) t nw (nI (c + 4)) f (nx (mSee σ t) t (keepF (nI (c + 4)) m)) := by simp only [numR, t2, if_true, cm, w6, w7, not_false_eq_true, and_self]
        have hgt := nx_gt (σ := σ) _ hka2 (by rw [cm]; decide)
        rw [keepF_a] at hgt
        have i := ih g' (k + 1) (nxC (mSee σ t) t s') (nx (mSee σ t) t (keepF (nI (c + 4)) m)) cm hT' (by rw [if_neg (by omega)]; exact hD') (by omega) hle (by omega) (by omega)
        rw [sm.1, sm.2.2.1, t4, t5, show (nx (mSee σ t) t (keepF (nI (c + 4)) m)).cl = m.cl from keepF_cl _ _] at i
        rw [e1, e2]
        exact i
      · have e2 : numR (mSee σ t) t nw (nI (c + 4)) (f + 1) m = (0, nx (mSee σ t) t (keepF (nI (c + 4)) m)) := by simp only [numR, t2, if_true, cm, false_and, if_false]
        have e3 : rnF (mSee σ t) t (nI nw) (nI c) g' (k + 1) (nxC (mSee σ t) t s') = (true, k + 1, nxC (mSee σ t) t s') := by
          cases g' with
          | zero => rfl
          | succ g' => simp only [rnF, if_neg (TR_not hT' cm)]
        rw [e1, e2, e3]
        left
        refine ⟨rfl, rfl, by show 1 ≤ k + 1; omega, hT', hD', hle, ?_, ?_, keepF_cl _ _⟩
        · show (nxC (mSee σ t) t s').fl = s.fl
          rw [sm.1, t4]
        · show (nxC (mSee σ t) t s').se = s.se
          rw [sm.2.2.1, t5]
/-- how a clause's end, or a fault in it, stands on both sides -/
def CO (σ : am_H) (t : Nat) (b : Nat → Bool) (se cl : Int32) (s : RS) (r : Int32 × MS) : Prop := (r.1 = 0 ∧ s.fl = 0 ∧ TR (mSee σ t) s r.2 ∧ DT b s r.2 ∧ r.2.a ≤ t ∧ s.se = se ∧ r.2.cl = cl) ∨ (¬ r.1 = 0 ∧ s.fl = r.1 ∧ s.pl = nI r.2.p)
theorem end_rel (hneg : ∀ j, mSee σ t j < 0 → mSee σ t j = -1) (ht : t ≤ 120) {b : Nat → Bool} {s : RS} {m : MS} (hT : TR (mSee σ t) s m) (hD : DT b s m) (hle : m.a ≤ t) (hf : s.fl = 0) : CO σ t b s.se m.cl (if ¬ s.ki = 3 then failF 1 s else nxC (mSee σ t) t s) (endF (mSee σ t) t m) := by
  have sm := nxC_same (mSee σ t) t s
  unfold endF
  by_cases c : m.tk = 2
  · have c' := (TR_stop hT).mpr c
    rw [if_pos c, if_neg (fun z => z c')]
    exact Or.inl ⟨rfl, by rw [sm.1]; exact hf, tokR hneg ht hT.1 hle, DT_nx hD, nx_le (σ := σ) m hle, sm.2.2.1, rfl⟩
  · have c' : ¬ s.ki = 3 := fun z => c ((TR_stop hT).mp z)
    rw [if_neg c, if_pos c']
    refine Or.inr ⟨(show ¬ (1 : Int32) = 0 by decide), rfl, ?_⟩
    show nI s.st = nI m.p
    rw [hT.2.1]
end NM
