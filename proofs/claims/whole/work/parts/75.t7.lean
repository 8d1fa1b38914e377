/-! RELATION, 15: a text on both sides -/
section TX
variable {σ : am_H} {t nw : Nat}
theorem DT_congr {b b' : Nat → Bool} {s : RS} {m : MS} (h : ∀ i, i < 4 → b i = b' i) (hD : DT b s m) : DT b' s m := by
  unfold DT at hD ⊢
  rw [← h 0 (by decide), ← h 1 (by decide), ← h 2 (by decide), ← h 3 (by decide)]
  exact hD
theorem TR_word {T : Nat → Int32} {s : RS} {m : MS} (h : TR T s m) : (clH T s = -1 ∧ inB m.tk 4 8 = false) ∨ ∃ c, c < 5 ∧ clH T s = nI c ∧ m.tk = nI (c + 4) := by
  obtain ⟨-, -, h⟩ := h
  rcases h with ⟨-, e, f⟩ | ⟨-, e, -, f⟩ | ⟨-, e, f⟩ | ⟨-, e, f⟩ | ⟨-, c, hc, f, e⟩
  · exact Or.inl ⟨f, by rw [e]; decide⟩
  · exact Or.inl ⟨f, by rw [e]; decide⟩
  · exact Or.inl ⟨f, by rw [e]; decide⟩
  · exact Or.inl ⟨f, by rw [e]; decide⟩
  · exact Or.inr ⟨c, hc, f, e⟩
def bC (cl : Int32) (i : Nat) : Bool := bitI cl (i + 4)
theorem clF_eq {c : Nat} (hc : c < 5) {m : MS} (hk : m.tk = nI (c + 4)) : clF (mSee σ t) t nw m = if bitI m.cl (c + 4) = true then (2, m) else nuF (mSee σ t) t nw (nI (c + 4)) (nx (mSee σ t) t (m.s_cl (m.cl ||| ((1 : Int32) <<< (nI (c + 4) &&& 31))))) := by
  have hin : inB m.tk 4 8 = true := by
    rw [hk, show (4 : Int32) = nI 4 from rfl, show (8 : Int32) = nI 8 from rfl, nat_inB (by omega) (by decide) (by decide)]
    have h1 : 4 ≤ c + 4 := by omega
    have h2 : c + 4 ≤ 8 := by omega
    simp [h1, h2]
  unfold clF nuF
  rw [if_pos hin, hk]
  by_cases c1 : bitI m.cl (c + 4) = true
  · rw [if_pos c1, if_pos ((shr1_It m.cl (show c + 4 < 32 by omega)).mpr c1)]
  · rw [if_neg c1, if_neg (fun z => c1 ((shr1_It m.cl (show c + 4 < 32 by omega)).mp z))]
theorem clC_eq {c : Nat} (hc : c < 5) {s : RS} (hk : clH (mSee σ t) s = nI c) : clC (mSee σ t) t (nI nw) s = if bitI s.se c = true then failF 2 s else numC (mSee σ t) t (nI nw) (nI c) (nxC (mSee σ t) t (s.s_se (s.se ||| ((1 : Int32) <<< (nI c &&& 31))))) := by
  have ne : ¬ nI c = -1 := by
    intro z
    have e0 : ¬ nI c < 0 := nI_pos (by omega)
    rw [z] at e0
    exact e0 (by decide)
  unfold clC
  rw [hk, if_neg ne, hld_nI _ (by omega), bitL_of _ (by omega)]
theorem num_rel (hneg : ∀ j, mSee σ t j < 0 → mSee σ t j = -1) (ht : t ≤ 120) (hnw : nw ≤ 40) {c : Nat} (hc : c < 5) {b : Nat → Bool} (hb : c < 4 → b c = false) {s : RS} {m : MS} (hT : TR (mSee σ t) s m) (hD : DT b s m) (ha : m.tk = 1 → 0 < m.a) (hle : m.a ≤ t) (hf : s.fl = 0) : CO σ t (bT b c) s.se m.cl (numC (mSee σ t) t (nI nw) (nI c) s) (nuF (mSee σ t) t nw (nI (c + 4)) m) := by
  by_cases h3 : c = 3
  · subst h3
    exact num_most hneg ht hT hD hle hf
  · by_cases h2 : c = 2
    · subst h2
      exact num_days hneg ht (hb (by decide)) hT hD hle hf
    · exact num_many hneg ht hnw (by omega) hb hT hD ha hle hf
theorem clause_rel (hneg : ∀ j, mSee σ t j < 0 → mSee σ t j = -1) (ht : t ≤ 120) (hnw : nw ≤ 40) {s : RS} {m : MS} (hT : TR (mSee σ t) s m) (hS : ∀ c, c < 5 → bitI s.se c = bitI m.cl (c + 4)) (hD : DT (bC m.cl) s m) (hle : m.a ≤ t) (hf : s.fl = 0) : ((clF (mSee σ t) t nw m).1 = 0 ∧ (clC (mSee σ t) t (nI nw) s).fl = 0 ∧ TR (mSee σ t) (clC (mSee σ t) t (nI nw) s) (clF (mSee σ t) t nw m).2 ∧ (∀ c, c < 5 → bitI (clC (mSee σ t) t (nI nw) s).se c = bitI (clF (mSee σ t) t nw m).2.cl (c + 4)) ∧ DT (bC (clF (mSee σ t) t nw m).2.cl) (clC (mSee σ t) t (nI nw) s) (clF (mSee σ t) t nw m).2 ∧ cntF (bitI (clC (mSee σ t) t (nI nw) s).se) 5 = cntF (bitI s.se) 5 + 1) ∨ (¬ (clF (mSee σ t) t nw m).1 = 0 ∧ (clC (mSee σ t) t (nI nw) s).fl = (clF (mSee σ t) t nw m).1 ∧ (clC (mSee σ t) t (nI nw) s).pl = nI (clF (mSee σ t) t nw m).2.p) := by
  rcases TR_word hT with ⟨h1, h2⟩ | ⟨c, hc, h1, h2⟩
  · right
    have e1 : clC (mSee σ t) t (nI nw) s = failF 1 s := by
      unfold clC
      rw [if_pos h1]
    have e2 : clF (mSee σ t) t nw m = (1, m) := by
      unfold clF
      rw [if_neg (by rw [h2]; decide)]
    rw [e1, e2]
    refine ⟨(show ¬ (1 : Int32) = 0 by decide), rfl, ?_⟩
    show nI s.st = nI m.p
    rw [hT.2.1]
  · rw [clF_eq hc h2, clC_eq hc h1, hS c hc]
    by_cases c1 : bitI m.cl (c + 4) = true
    · right
      rw [if_pos c1, if_pos c1]
      refine ⟨(show ¬ (2 : Int32) = 0 by decide), rfl, ?_⟩
      show nI s.st = nI m.p
      rw [hT.2.1]
    · rw [if_neg c1, if_neg c1]
      have c1' : bitI m.cl (c + 4) = false := by simpa using c1
      have hT1 : TR (mSee σ t) (nxC (mSee σ t) t (s.s_se (s.se ||| ((1 : Int32) <<< (nI c &&& 31))))) (nx (mSee σ t) t (m.s_cl (m.cl ||| ((1 : Int32) <<< (nI (c + 4) &&& 31))))) := tokR hneg ht hT.1 hle
      have hD0 : DT (bC m.cl) (s.s_se (s.se ||| ((1 : Int32) <<< (nI c &&& 31)))) (m.s_cl (m.cl ||| ((1 : Int32) <<< (nI (c + 4) &&& 31)))) := hD
      have hD1 := DT_nx (T := mSee σ t) (t := t) hD0
      have sm := nxC_same (mSee σ t) t (s.s_se (s.se ||| ((1 : Int32) <<< (nI c &&& 31))))
      have hle1 : (nx (mSee σ t) t (m.s_cl (m.cl ||| ((1 : Int32) <<< (nI (c + 4) &&& 31))))).a ≤ t := nx_le (σ := σ) (m.s_cl (m.cl ||| ((1 : Int32) <<< (nI (c + 4) &&& 31)))) hle
      have hgt := nx_gt (σ := σ) (m.s_cl (m.cl ||| ((1 : Int32) <<< (nI (c + 4) &&& 31)))) hle
      have r := num_rel hneg ht hnw hc (fun _ => c1') hT1 hD1 (fun z => Nat.lt_of_le_of_lt (Nat.zero_le _) (hgt (by rw [z]; decide))) hle1 (by rw [sm.1]; exact hf)
      rw [sm.2.2.1] at r
      rcases r with ⟨r1, r2, r3, r4, r5, r6, r7⟩ | r
      · left
        have se' : ∀ j, j < 5 → bitI (s.se ||| ((1 : Int32) <<< (nI c &&& 31))) j = (bitI s.se j || decide (j = c)) := fun j hj => orI (by omega) (by omega)
        have cl' : ∀ j, j < 5 → bitI (m.cl ||| ((1 : Int32) <<< (nI (c + 4) &&& 31))) (j + 4) = (bitI m.cl (j + 4) || decide (j = c)) := by
          intro j hj
          rw [orI (by omega) (by omega)]
          congr 1
          by_cases e : j = c
          · simp [e]
          · have : ¬ j + 4 = c + 4 := by omega
            simp [e]
        have ecl : (nuF (mSee σ t) t nw (nI (c + 4)) (nx (mSee σ t) t (m.s_cl (m.cl ||| ((1 : Int32) <<< (nI (c + 4) &&& 31)))))).2.cl = m.cl ||| ((1 : Int32) <<< (nI (c + 4) &&& 31)) := r7
        have ese : (numC (mSee σ t) t (nI nw) (nI c) (nxC (mSee σ t) t (s.s_se (s.se ||| ((1 : Int32) <<< (nI c &&& 31)))))).se = s.se ||| ((1 : Int32) <<< (nI c &&& 31)) := r6
        refine ⟨r1, r2, r3, fun j hj => ?_, ?_, ?_⟩
        · rw [ecl, ese, se' j hj, cl' j hj, hS j hj]
        · rw [ecl]
          refine DT_congr (fun i hi => ?_) r4
          unfold bC bT
          rw [cl' i (by omega)]
          by_cases e : i = c
          · simp [e]
          · simp [e]
        · rw [ese, cntF_one (a := bitI s.se) (o := c) (by rw [hS c hc]; exact c1') 5 se', if_pos hc]
      · exact Or.inr r
theorem tkF_pl {w cl ix : Int32} {s s' : RS} (h : tkF w cl ix s = some s') : s'.pl = s.pl := by
  unfold tkF at h
  repeat' split at h
  all_goals first | (cases h; rfl) | (cases h)
theorem rnF_pl {T : Nat → Int32} {w cl : Int32} : ∀ g k s, ((rnF T t w cl g k s).1 = true → (rnF T t w cl g k s).2.2.pl = s.pl) ∧ ((rnF T t w cl g k s).1 = false → (rnF T t w cl g k s).2.2.fl = 3) := by
  intro g
  induction g with
  | zero => intro k s; exact ⟨fun _ => rfl, fun z => by cases z⟩
  | succ g ih =>
    intro k s
    by_cases c : s.ki = 2
    · cases e : tkF w cl (nI k) s with
      | none =>
        have r : rnF T t w cl (g + 1) k s = (false, k, failF 3 s) := by simp only [rnF, c, e, if_true, Option.elim_none]
        rw [r]
        exact ⟨fun z => (by cases z), fun _ => rfl⟩
      | some s' =>
        have r : rnF T t w cl (g + 1) k s = rnF T t w cl g (k + 1) (nxC T t s') := by simp only [rnF, c, e, if_true, Option.elim_some]
        rw [r]
        have i := ih (k + 1) (nxC T t s')
        rw [(nxC_same T t s').2.1, tkF_pl e] at i
        exact i
    · have r : rnF T t w cl (g + 1) k s = (true, k, s) := by simp only [rnF, if_neg c]
      rw [r]
      exact ⟨fun _ => rfl, fun z => by cases z⟩
theorem clC_pl {T : Nat → Int32} {w : Int32} {s : RS} (h : (clC T t w s).fl = 0) : (clC T t w s).pl = s.pl := by
  have d1 : ¬ (1 : Int32) = 0 := by decide
  have d2 : ¬ (2 : Int32) = 0 := by decide
  have d3 : ¬ (3 : Int32) = 0 := by decide
  unfold clC at h ⊢
  split at h
  · exact absurd h d1
  · rename_i c1
    rw [if_neg c1]
    split at h
    · exact absurd h d2
    · rename_i c2
      rw [if_neg c2]
      unfold numC at h ⊢
      have r := rnF_pl (t := t) (T := T) (w := w) (cl := clH T s) (mostN (clH T s)) 0 (nxC T t (s.s_se (s.se ||| ((1 : Int32) <<< (clH T s &&& 31)))))
      rw [(nxC_same T t (s.s_se (s.se ||| ((1 : Int32) <<< (clH T s &&& 31))))).2.1] at r
      split at h
      · rename_i c3
        rw [if_pos c3]
        split at h
        · exact absurd h d1
        · rename_i c4
          rw [if_neg c4, (nxC_same T t _).2.1]
          exact r.1 c3
      · rename_i c3
        have := r.2 (by simpa using c3)
        rw [this] at h
        exact absurd h d3
theorem rd_rel (hneg : ∀ j, mSee σ t j < 0 → mSee σ t j = -1) (ht : t ≤ 120) (hnw : nw ≤ 40) : ∀ f g k s m, k + f = 6 → cntF (bitI s.se) 5 = k → TR (mSee σ t) s m → (∀ c, c < 5 → bitI s.se c = bitI m.cl (c + 4)) → DT (bC m.cl) s m → m.a ≤ t → s.fl = 0 → t + 1 ≤ g + m.a → ((rdF (mSee σ t) t nw g m).1 = 0 ∧ (rdC (mSee σ t) t (nI nw) f s).fl = 0 ∧ (rdC (mSee σ t) t (nI nw) f s).pl = s.pl ∧ DT (bC (rdF (mSee σ t) t nw g m).2.cl) (rdC (mSee σ t) t (nI nw) f s) (rdF (mSee σ t) t nw g m).2) ∨ (¬ (rdF (mSee σ t) t nw g m).1 = 0 ∧ (rdC (mSee σ t) t (nI nw) f s).fl = (rdF (mSee σ t) t nw g m).1 ∧ (rdC (mSee σ t) t (nI nw) f s).pl = nI (rdF (mSee σ t) t nw g m).2.p) := by
  intro f
  induction f with
  | zero =>
    intro g k s m hk hc
    have := cntF_le (bitI s.se) 5
    omega
  | succ f ih =>
    intro g k s m hk hc hT hS hD hle hf hg
    obtain ⟨g', rfl⟩ : ∃ g', g = g' + 1 := ⟨g - 1, by omega⟩
    by_cases c0 : m.tk = 0
    · have c0' := (TR_end hT).mpr c0
      have e1 : rdF (mSee σ t) t nw (g' + 1) m = (0, m) := by simp only [rdF, if_pos c0]
      have e2 : rdC (mSee σ t) t (nI nw) (f + 1) s = s := by simp only [rdC, c0', not_true_eq_false, and_false, if_false]
      rw [e1, e2]
      exact Or.inl ⟨rfl, hf, rfl, hD⟩
    · have c0' : ¬ s.ki = 4 := fun z => c0 ((TR_end hT).mp z)
      have e2 : rdC (mSee σ t) t (nI nw) (f + 1) s = rdC (mSee σ t) t (nI nw) f (clC (mSee σ t) t (nI nw) s) := by simp only [rdC, hf, c0', not_false_eq_true, and_self, if_true]
      have ca := clF_a (σ := σ) (nw := nw) m hle
      rcases clause_rel hneg ht hnw hT hS hD hle hf with ⟨r1, r2, r3, r4, r5, r6⟩ | ⟨r1, r2, r3⟩
      · have e1 : rdF (mSee σ t) t nw (g' + 1) m = rdF (mSee σ t) t nw g' (clF (mSee σ t) t nw m).2 := by simp only [rdF, if_neg c0, if_pos r1]
        have gt := ca.2 r1
        have i := ih g' (k + 1) (clC (mSee σ t) t (nI nw) s) (clF (mSee σ t) t nw m).2 (by omega) (by omega) r3 r4 r5 ca.1 r2 (by omega)
        rw [clC_pl r2] at i
        rw [e1, e2]
        exact i
      · have e1 : rdF (mSee σ t) t nw (g' + 1) m = clF (mSee σ t) t nw m := by simp only [rdF, if_neg c0, if_neg r1]
        have e3 : rdC (mSee σ t) t (nI nw) f (clC (mSee σ t) t (nI nw) s) = clC (mSee σ t) t (nI nw) s := by
          cases f with
          | zero => rfl
          | succ f =>
            have : ¬ (clC (mSee σ t) t (nI nw) s).fl = 0 := by rw [r2]; exact r1
            simp only [rdC, this, false_and, if_false]
        rw [e1, e2, e3]
        exact Or.inr ⟨r1, r2, r3⟩
/-- a text is read alike on both sides -/
theorem text_rel (hneg : ∀ j, mSee σ t j < 0 → mSee σ t j = -1) (ht : t ≤ 120) (hnw : nw ≤ 40) (hT : aSee t (ga σ 32) = mSee σ t) : ((mRd σ t nw).1 = 0 ∧ (aRd σ t (nI nw)).fl = 0 ∧ (aRd σ t (nI nw)).pl = -1 ∧ DT (bC (mRd σ t nw).2.cl) (aRd σ t (nI nw)) (mRd σ t nw).2) ∨ (¬ (mRd σ t nw).1 = 0 ∧ (aRd σ t (nI nw)).fl = (mRd σ t nw).1 ∧ (aRd σ t (nI nw)).pl = nI (mRd σ t nw).2.p) := by
  unfold aRd mRd
  rw [hT]
  have sm := nxC_same (mSee σ t) t (aRd0 σ)
  have h0 : TR (mSee σ t) (nxC (mSee σ t) t (aRd0 σ)) (nx (mSee σ t) t (mRd0 σ)) := tokR hneg ht (s := aRd0 σ) (m := mRd0 σ) rfl (Nat.zero_le t)
  have d0 : DT (bC (mRd0 σ).cl) (aRd0 σ) (mRd0 σ) := by
    have bz : ∀ i, bC (mRd0 σ).cl i = false := fun i => bitI_0 (i + 4)
    refine ⟨⟨fun z => ?_, fun _ => ⟨rfl, rfl⟩⟩, ⟨fun z => ?_, fun _ => ⟨rfl, rfl⟩⟩, ⟨fun z => ?_, fun _ => ⟨rfl, rfl⟩⟩, ⟨fun z => ?_, fun _ => rfl⟩, rfl⟩
    · rw [bz] at z; cases z
    · rw [bz] at z; cases z
    · rw [bz] at z; cases z
    · rw [bz] at z; cases z
  have s0 : ∀ c, bitI (nxC (mSee σ t) t (aRd0 σ)).se c = false := by
    intro c
    rw [sm.2.2.1]
    exact bitI_0 c
  have r := rd_rel hneg ht hnw 6 (t + 1) 0 (nxC (mSee σ t) t (aRd0 σ)) (nx (mSee σ t) t (mRd0 σ)) (by omega) (by
    have : ∀ n, cntF (bitI (nxC (mSee σ t) t (aRd0 σ)).se) n = 0 := by
      intro n
      induction n with
      | zero => rfl
      | succ n ih => simp [cntF, ih, s0 n]
    exact this 5) h0 (fun c _ => by rw [s0 c]; exact (bitI_0 (c + 4)).symm) (DT_nx (T := mSee σ t) (t := t) d0) (mRd_a (σ := σ) ht) (by rw [sm.1]; rfl) (by omega)
  rw [sm.2.1] at r
  exact r
end TX
