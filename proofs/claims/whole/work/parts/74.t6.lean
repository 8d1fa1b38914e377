/-! RELATION, 14: a clause on both sides -/
section CL
variable {σ : am_H} {t nw : Nat}
/-- the reference's clause behind its first number -/
def nuF (T : Nat → Int32) (t nw : Nat) (w : Int32) (m : MS) : Int32 × MS := if m.tk = 1 then (if (numR T t nw w (t + 1) m).1 = 0 then dayF T t w (numR T t nw w (t + 1) m).2 else numR T t nw w (t + 1) m) else (1, m)
theorem CO_no {b : Nat → Bool} {se cl : Int32} {s : RS} {m : MS} (hT : TR (mSee σ t) s m) : CO σ t b se cl (failF 1 s) (1, m) := by
  refine Or.inr ⟨(show ¬ (1 : Int32) = 0 by decide), rfl, ?_⟩
  show nI s.st = nI m.p
  rw [hT.2.1]
theorem CO_3 {b : Nat → Bool} {se cl : Int32} {s : RS} {m : MS} (hT : TR (mSee σ t) s m) : CO σ t b se cl (failF 3 s) (3, m) := by
  refine Or.inr ⟨(show ¬ (3 : Int32) = 0 by decide), rfl, ?_⟩
  show nI s.st = nI m.p
  rw [hT.2.1]
theorem num_many (hneg : ∀ j, mSee σ t j < 0 → mSee σ t j = -1) (ht : t ≤ 120) (hnw : nw ≤ 40) {c : Nat} {b : Nat → Bool} (hc : c = 0 ∨ c = 1 ∨ c = 4) (hb : c < 4 → b c = false) {s : RS} {m : MS} (hT : TR (mSee σ t) s m) (hD : DT b s m) (ha : m.tk = 1 → 0 < m.a) (hle : m.a ≤ t) (hf : s.fl = 0) : CO σ t (bT b c) s.se m.cl (numC (mSee σ t) t (nI nw) (nI c) s) (nuF (mSee σ t) t nw (nI (c + 4)) m) := by
  have hm : mostN (nI c) = 120 ∧ leastN (nI c) = 1 := by rcases hc with rfl | rfl | rfl <;> decide
  have w6 : ¬ nI (c + 4) = 6 := by
    rw [show (6 : Int32) = nI 6 from rfl, nI_eq (by omega) (by omega)]
    omega
  unfold numC nuF
  rw [hm.1, hm.2]
  by_cases c1 : m.tk = 1
  · rw [if_pos c1]
    rcases many_rel hneg ht hnw hc hb (t + 1) 120 0 s m c1 hT (by rw [if_pos rfl]; exact hD) (ha c1) hle (by omega) (by omega) with ⟨h1, h2, h3, h4, h5, h6, h7, h8, h9⟩ | ⟨h1, h2, h3, h4⟩
    · rw [if_pos h1, if_pos h2]
      have e := end_rel hneg ht h4 h5 h6 (h7.trans hf)
      rw [h8, h9] at e
      have ed : dayF (mSee σ t) t (nI (c + 4)) (numR (mSee σ t) t nw (nI (c + 4)) (t + 1) m).2 = endF (mSee σ t) t (numR (mSee σ t) t nw (nI (c + 4)) (t + 1) m).2 := by
        unfold dayF
        rw [if_neg w6]
      rw [ed]
      by_cases c3 : (rnF (mSee σ t) t (nI nw) (nI c) 120 0 s).2.2.ki = 3
      · rw [if_neg (fun z => z c3)] at e
        rw [if_neg (fun z => z.elim (fun y => by omega) (fun y => y c3))]
        exact e
      · rw [if_pos c3] at e
        rw [if_pos (Or.inr c3)]
        exact e
    · rw [if_neg (show ¬ (numR (mSee σ t) t nw (nI (c + 4)) (t + 1) m).1 = 0 by rw [h1]; decide), if_neg (show ¬ (rnF (mSee σ t) t (nI nw) (nI c) 120 0 s).1 = true by rw [h2]; decide)]
      exact Or.inr ⟨by rw [h1]; decide, by rw [h3, h1], h4⟩
  · rw [if_neg c1]
    have e1 : rnF (mSee σ t) t (nI nw) (nI c) 120 0 s = (true, 0, s) := if_neg (TR_not hT c1)
    rw [e1]
    simp only [if_true, true_or, Nat.zero_lt_one]
    exact CO_no hT
theorem num_most (hneg : ∀ j, mSee σ t j < 0 → mSee σ t j = -1) (ht : t ≤ 120) {b : Nat → Bool} {s : RS} {m : MS} (hT : TR (mSee σ t) s m) (hD : DT b s m) (hle : m.a ≤ t) (hf : s.fl = 0) : CO σ t (bT b 3) s.se m.cl (numC (mSee σ t) t (nI nw) (nI 3) s) (nuF (mSee σ t) t nw (nI (3 + 4)) m) := by
  have hm : mostN (nI 3) = 1 ∧ leastN (nI 3) = 1 := by decide
  unfold numC nuF
  rw [hm.1, hm.2]
  by_cases c1 : m.tk = 1
  · rw [if_pos c1]
    obtain ⟨n1, n2⟩ := TR_num hT c1
    rcases take_most (nw := nw) n2 hD with ⟨t1, t2⟩ | ⟨s', t1, t2, t3, t4, t5⟩
    · have e1 : rnF (mSee σ t) t (nI nw) (nI 3) 1 0 s = (false, 0, failF 3 s) := by
        have t1' : tkF (nI nw) (nI 3) (nI 0) s = none := t1
        simp only [rnF, n1, t1', if_true, Option.elim_none]
      have e2 : numR (mSee σ t) t nw (nI (3 + 4)) (t + 1) m = (3, m) := by simp only [numR, t2, Bool.false_eq_true, if_false]
      rw [e1, e2]
      simp only [Bool.false_eq_true, if_false, show ¬ (3 : Int32) = 0 by decide]
      exact CO_3 hT
    · have hbe : s'.be = (keepF (nI (3 + 4)) m).a := by rw [(tkF_be t1).1, keepF_a]; exact hT.1
      have hka2 : (keepF (nI (3 + 4)) m).a ≤ t := by rw [keepF_a]; exact hle
      have e1 : rnF (mSee σ t) t (nI nw) (nI 3) 1 0 s = (true, 1, nxC (mSee σ t) t s') := by
        have t1' : tkF (nI nw) (nI 3) (nI 0) s = some s' := t1
        simp only [rnF, n1, t1', if_true, Option.elim_some]
      have cnd : ¬ ((nx (mSee σ t) t (keepF (nI (3 + 4)) m)).tk = 1 ∧ ¬ nI (3 + 4) = 6 ∧ ¬ nI (3 + 4) = 7) := fun z => z.2.2 rfl
      have e2 : numR (mSee σ t) t nw (nI (3 + 4)) (t + 1) m = (0, nx (mSee σ t) t (keepF (nI (3 + 4)) m)) := by simp only [numR, t2, if_true, if_neg cnd]
      have sm := nxC_same (mSee σ t) t s'
      have e := end_rel hneg ht (tokR hneg ht hbe hka2) (DT_nx (T := mSee σ t) (t := t) t3) (nx_le (σ := σ) _ hka2) (by rw [sm.1, t4]; exact hf)
      rw [sm.2.2.1, t5, show (nx (mSee σ t) t (keepF (nI (3 + 4)) m)).cl = m.cl from keepF_cl _ _] at e
      rw [e1, e2]
      simp only [if_true]
      have ed : dayF (mSee σ t) t (nI (3 + 4)) (nx (mSee σ t) t (keepF (nI (3 + 4)) m)) = endF (mSee σ t) t (nx (mSee σ t) t (keepF (nI (3 + 4)) m)) := by
        unfold dayF
        rw [if_neg (by decide)]
      rw [ed]
      by_cases c3 : (nxC (mSee σ t) t s').ki = 3
      · rw [if_neg (fun z => z c3)] at e
        rw [if_neg (fun z => z.elim (fun y => by omega) (fun y => y c3))]
        exact e
      · rw [if_pos c3] at e
        rw [if_pos (Or.inr c3)]
        exact e
  · rw [if_neg c1]
    have e1 : rnF (mSee σ t) t (nI nw) (nI 3) 1 0 s = (true, 0, s) := by simp only [rnF, if_neg (TR_not hT c1)]
    rw [e1]
    simp only [if_true, true_or, Nat.zero_lt_one]
    exact CO_no hT
theorem NR_day {a b : Int32} (h : NR a b) : inB a 0 100000 = inB b 0 100000 ∧ (inB b 0 100000 = true → a = b) := by
  rw [show (100000 : Int32) = nI 100000 from rfl, show (0 : Int32) = nI 0 from rfl]
  rcases h with ⟨v, hv, h1, h2⟩ | ⟨h1, v, h2, h3, h4⟩
  · rw [h1, h2]; exact ⟨rfl, fun _ => rfl⟩
  · rw [h1, h4, nat_inB (by decide) (by decide) (by decide), nat_inB (by omega) (by decide) (by decide)]
    have e1 : ¬ v ≤ 100000 := by omega
    simp [e1]
theorem num_days (hneg : ∀ j, mSee σ t j < 0 → mSee σ t j = -1) (ht : t ≤ 120) {b : Nat → Bool} (hb : b 2 = false) {s : RS} {m : MS} (hT : TR (mSee σ t) s m) (hD : DT b s m) (hle : m.a ≤ t) (hf : s.fl = 0) : CO σ t (bT b 2) s.se m.cl (numC (mSee σ t) t (nI nw) (nI 2) s) (nuF (mSee σ t) t nw (nI (2 + 4)) m) := by
  have hm : mostN (nI 2) = 2 ∧ leastN (nI 2) = 2 := by decide
  unfold numC nuF
  rw [hm.1, hm.2]
  by_cases c1 : m.tk = 1
  · rw [if_pos c1]
    obtain ⟨n1, n2⟩ := TR_num hT c1
    have nd := NR_day n2
    have k1 : tkF (nI nw) (nI 2) (nI 0) s = if inB s.nu 0 100000 = true then some (s.s_fr s.nu) else none := rfl
    have k2 : toldB nw (nI (2 + 4)) m.nm = inB m.nm 0 100000 := rfl
    have k3 : keepF (nI (2 + 4)) m = m.s_df m.nm := rfl
    have w6 : nI (2 + 4) = 6 := rfl
    cases cv : inB m.nm 0 100000
    · have t1 : tkF (nI nw) (nI 2) (nI 0) s = none := by rw [k1, nd.1, cv]; rfl
      have e1 : rnF (mSee σ t) t (nI nw) (nI 2) 2 0 s = (false, 0, failF 3 s) := by simp only [rnF, n1, t1, if_true, Option.elim_none]
      have e2 : numR (mSee σ t) t nw (nI (2 + 4)) (t + 1) m = (3, m) := by simp only [numR, k2, cv, Bool.false_eq_true, if_false]
      rw [e1, e2]
      simp only [Bool.false_eq_true, if_false, show ¬ (3 : Int32) = 0 by decide]
      exact CO_3 hT
    · have enu := nd.2 cv
      have t1 : tkF (nI nw) (nI 2) (nI 0) s = some (s.s_fr s.nu) := by rw [k1, nd.1, cv]; rfl
      have e1 : rnF (mSee σ t) t (nI nw) (nI 2) 2 0 s = rnF (mSee σ t) t (nI nw) (nI 2) 1 1 (nxC (mSee σ t) t (s.s_fr s.nu)) := by simp only [rnF, n1, t1, if_true, Option.elim_some]
      have cnd : ¬ ((nx (mSee σ t) t (keepF (nI (2 + 4)) m)).tk = 1 ∧ ¬ nI (2 + 4) = 6 ∧ ¬ nI (2 + 4) = 7) := fun z => z.2.1 rfl
      have e2' : numR (mSee σ t) t nw (nI (2 + 4)) (t + 1) m = (0, nx (mSee σ t) t (keepF (nI (2 + 4)) m)) := by simp only [numR, k2, cv, if_true, if_neg cnd]
      have e2 : numR (mSee σ t) t nw (nI (2 + 4)) (t + 1) m = (0, nx (mSee σ t) t (m.s_df m.nm)) := e2'.trans (by rw [k3])
      have hT1 : TR (mSee σ t) (nxC (mSee σ t) t (s.s_fr s.nu)) (nx (mSee σ t) t (m.s_df m.nm)) := tokR hneg ht hT.1 hle
      have sm := nxC_same (mSee σ t) t (s.s_fr s.nu)
      have hle1 : (nx (mSee σ t) t (m.s_df m.nm)).a ≤ t := nx_le (σ := σ) (m.s_df m.nm) hle
      have efr : (nxC (mSee σ t) t (s.s_fr s.nu)).fr = (nx (mSee σ t) t (m.s_df m.nm)).df := by rw [sm.2.2.2.2.2.1]; exact enu
      rw [e1, e2]
      simp only [if_true]
      unfold dayF
      rw [if_pos w6]
      generalize hs1 : nxC (mSee σ t) t (s.s_fr s.nu) = s1 at *
      generalize hm1 : nx (mSee σ t) t (m.s_df m.nm) = m1 at *
      by_cases c2 : m1.tk = 1
      · rw [if_pos c2]
        obtain ⟨p1, p2⟩ := TR_num hT1 c2
        have pd := NR_day p2
        have j1 : tkF (nI nw) (nI 2) (nI 1) s1 = if inB s1.nu 0 100000 = true ∧ ¬ s1.nu < s1.fr then some (s1.s_to s1.nu) else none := rfl
        have dfp : ¬ m1.df < 0 := by
          rw [← hm1]
          show ¬ m.nm < 0
          simp only [inB, Bool.and_eq_true, Bool.not_eq_true', decide_eq_false_iff_not] at cv
          exact cv.1
        have eq : (inB s1.nu 0 100000 = true ∧ ¬ s1.nu < s1.fr) ↔ inB m1.nm m1.df 100000 = true := by
          rw [pd.1, efr]
          constructor
          · rintro ⟨h1, h2⟩
            rw [pd.2 h1] at h2
            simp only [inB, Bool.and_eq_true, Bool.not_eq_true', decide_eq_false_iff_not] at h1 ⊢
            exact ⟨h2, h1.2⟩
          · intro h
            have h' := h
            simp only [inB, Bool.and_eq_true, Bool.not_eq_true', decide_eq_false_iff_not] at h
            have h1 : inB m1.nm 0 100000 = true := by
              simp only [inB, Bool.and_eq_true, Bool.not_eq_true', decide_eq_false_iff_not]
              exact ⟨fun z => h.1 (Int32.lt_of_lt_of_le z (Int32.not_lt.mp dfp)), h.2⟩
            exact ⟨h1, by rw [pd.2 h1]; exact h.1⟩
        by_cases c3 : inB m1.nm m1.df 100000 = true
        · have q := eq.mpr c3
          have enu1 : s1.nu = m1.nm := pd.2 (by rw [← pd.1]; exact q.1)
          have t2 : tkF (nI nw) (nI 2) (nI 1) s1 = some (s1.s_to s1.nu) := by rw [j1, if_pos q]
          have e3 : rnF (mSee σ t) t (nI nw) (nI 2) 1 1 s1 = (true, 2, nxC (mSee σ t) t (s1.s_to s1.nu)) := by simp only [rnF, p1, t2, if_true, Option.elim_some]
          rw [if_pos c3, e3]
          simp only [if_true]
          have sm2 := nxC_same (mSee σ t) t (s1.s_to s1.nu)
          have hT2 : TR (mSee σ t) (nxC (mSee σ t) t (s1.s_to s1.nu)) (nx (mSee σ t) t (m1.s_dt m1.nm)) := tokR hneg ht hT1.1 hle1
          have hD2 : DT (bT b 2) (s1.s_to s1.nu) (m1.s_dt m1.nm) := by
            obtain ⟨d0, d1, d2, d3, d4⟩ := hD
            rw [← hs1, ← hm1] at enu1 efr ⊢
            refine ⟨?_, ?_, ⟨fun _ => ⟨efr, enu1⟩, fun z => by simp [bT] at z⟩, ?_, ?_⟩
            · show (bT b 2 0 = true → ∀ l, l < 10 → bitL (nxC (mSee σ t) t (s.s_fr s.nu)).la l = bitI m.la l) ∧ (bT b 2 0 = false → (nxC (mSee σ t) t (s.s_fr s.nu)).la = 1023 ∧ m.la = 0)
              rw [(nxC_same (mSee σ t) t (s.s_fr s.nu)).2.2.2.1]
              exact d0
            · show (bT b 2 1 = true → ∀ l, l < 5 → bitL (nxC (mSee σ t) t (s.s_fr s.nu)).us l = bitI m.us l) ∧ (bT b 2 1 = false → (nxC (mSee σ t) t (s.s_fr s.nu)).us = 31 ∧ m.us = 0)
              rw [(nxC_same (mSee σ t) t (s.s_fr s.nu)).2.2.2.2.1]
              exact d1
            · show (bT b 2 3 = true → (nxC (mSee σ t) t (s.s_fr s.nu)).mo = m.mo) ∧ (bT b 2 3 = false → (nxC (mSee σ t) t (s.s_fr s.nu)).mo = 1000)
              rw [(nxC_same (mSee σ t) t (s.s_fr s.nu)).2.2.2.2.2.2.2.1]
              exact d3
            · show (nxC (mSee σ t) t (s.s_fr s.nu)).sh = m.be
              rw [(nxC_same (mSee σ t) t (s.s_fr s.nu)).2.2.2.2.2.2.2.2]
              exact d4
          have fl1 : s1.fl = 0 := sm.1.trans hf
          have se1 : s1.se = s.se := sm.2.2.1
          have cl1 : m1.cl = m.cl := by rw [← hm1]; rfl
          have e := end_rel hneg ht hT2 (DT_nx (T := mSee σ t) (t := t) hD2) (nx_le (σ := σ) (m1.s_dt m1.nm) hle1) (by rw [sm2.1]; exact fl1)
          rw [sm2.2.2.1, show (s1.s_to s1.nu).se = s.se from se1, show (nx (mSee σ t) t (m1.s_dt m1.nm)).cl = m.cl from cl1] at e
          by_cases c4 : (nxC (mSee σ t) t (s1.s_to s1.nu)).ki = 3
          · rw [if_neg (fun z => z c4)] at e
            rw [if_neg (fun z => z.elim (fun y => by omega) (fun y => y c4))]
            exact e
          · rw [if_pos c4] at e
            rw [if_pos (Or.inr c4)]
            exact e
        · have t2 : tkF (nI nw) (nI 2) (nI 1) s1 = none := by rw [j1, if_neg (fun z => c3 (eq.mp z))]
          have e3 : rnF (mSee σ t) t (nI nw) (nI 2) 1 1 s1 = (false, 1, failF 3 s1) := by simp only [rnF, p1, t2, if_true, Option.elim_none]
          rw [if_neg c3, e3]
          simp only [Bool.false_eq_true, if_false]
          exact CO_3 hT1
      · rw [if_neg c2]
        have e3 : rnF (mSee σ t) t (nI nw) (nI 2) 1 1 s1 = (true, 1, s1) := by simp only [rnF, if_neg (TR_not hT1 c2)]
        rw [e3]
        simp only [if_true, show (1 : Nat) < 2 by decide, true_or]
        exact CO_no hT1
  · rw [if_neg c1]
    have e1 : rnF (mSee σ t) t (nI nw) (nI 2) 2 0 s = (true, 0, s) := by simp only [rnF, if_neg (TR_not hT c1)]
    rw [e1]
    simp only [if_true, show (0 : Nat) < 2 by decide, true_or]
    exact CO_no hT
end CL
