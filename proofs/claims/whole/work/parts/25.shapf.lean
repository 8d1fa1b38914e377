/-! THE SHAPE is kept by every change; what the views show behind it -/
section SHP
variable {σ : am_H} {a b ci cj k j kd n : Nat} {c : am_C} {v w : Value} {x : Int32}
theorem gi_of (h : am_fld σ a ci k = some (.int x)) : am_fld σ a ci k = some (.int (gi σ a ci k)) := by
  unfold gi
  rw [h]
theorem gi_eq (h : am_fld σ a ci k = some (.int x)) : gi σ a ci k = x := by
  unfold gi
  rw [h]
theorem ga_eq {f : Nat → Int32} (h : am_j σ a = some (kd, n, f)) : ga σ a = f := by
  unfold ga
  rw [h]
theorem gL_eq {f : Nat → Int64} (h : am_lv σ a = some (n, f)) : gL σ a = f := by
  unfold gL
  rw [h]
theorem gq_eq {f : Nat → Option Nat} (h : am_q σ a = some (ci, n, f)) : gq σ a = f := by
  unfold gq
  rw [h]
theorem gi_put_ne (h : ¬ b = a) : gi (am_put σ a k v) b ci j = gi σ b ci j := by unfold gi; rw [fld_put_ne h]
theorem gi_put_k (h : ¬ j = k) : gi (am_put σ a k v) b ci j = gi σ b ci j := by unfold gi; rw [fld_put_k h]
theorem gi_put_eq (h : am_fld σ a ci k = some w) : gi (am_put σ a k (.int x)) a ci k = x := gi_eq (fld_put_eq h)
theorem gi_set_ne (h : ¬ b = a) : gi (am_set σ a c) b ci j = gi σ b ci j := by unfold gi; rw [fld_set_ne h]
theorem ga_put : ga (am_put σ a k v) b = ga σ b := by unfold ga; rw [j_put]
theorem gL_put : gL (am_put σ a k v) b = gL σ b := by unfold gL; rw [lv_put]
theorem gq_put : gq (am_put σ a k v) b = gq σ b := by unfold gq; rw [q_put]
theorem ga_set_ne (h : ¬ b = a) : ga (am_set σ a c) b = ga σ b := by unfold ga; rw [j_set_ne h]
theorem gL_set_ne (h : ¬ b = a) : gL (am_set σ a c) b = gL σ b := by unfold gL; rw [lv_set_ne h]
theorem gq_set_ne (h : ¬ b = a) : gq (am_set σ a c) b = gq σ b := by unfold gq; rw [q_set_ne h]
theorem ga_set_eq {f : Nat → Int32} : ga (am_set σ a (am_ia kd n f)) a = f := ga_eq j_set_eq
theorem gL_set_eq {f : Nat → Int64} : gL (am_set σ a (am_la n f)) a = f := gL_eq lv_set_eq
theorem gq_set_eq {f : Nat → Option Nat} : gq (am_set σ a (am_qa ci n f)) a = f := gq_eq q_set_eq
theorem fld_is {o : Nat × List Value} (h : am_fld σ a ci k = some v) : ∃ fs, am_get σ a = some (.inl (ci, fs)) := is_of_fld h
theorem fld_cls (h : am_fld σ a ci k = some v) (h2 : am_fld σ a cj j = some w) : ci = cj := by
  obtain ⟨fs, e⟩ := is_of_fld h
  obtain ⟨gs, e2⟩ := is_of_fld h2
  rw [e] at e2
  cases e2
  rfl
theorem j_get {f : Nat → Int32} (h : am_j σ a = some (kd, n, f)) : am_get σ a = some (.inr (.inl (kd, n, f))) := by
  unfold am_j at h
  split at h
  · rename_i o ho
    rw [ho]
    cases h
    rfl
  · cases h
theorem lv_get {f : Nat → Int64} (h : am_lv σ a = some (n, f)) : am_get σ a = some (.inr (.inr (.inl (n, f)))) := by
  unfold am_lv at h
  split at h
  · rename_i o ho
    rw [ho]
    cases h
    rfl
  · cases h
theorem q_get {f : Nat → Option Nat} (h : am_q σ a = some (ci, n, f)) : am_get σ a = some (.inr (.inr (.inr (ci, n, f)))) := by
  unfold am_q at h
  split at h
  · rename_i o ho
    rw [ho]
    cases h
    rfl
  · cases h
theorem fld_put_same : am_fld (am_put σ a k v) a ci k = (am_fld σ a ci k).map (fun _ => v) := by
  cases h : am_fld σ a ci k with
  | some w => exact fld_put_eq h
  | none =>
    unfold am_fld at h ⊢
    rw [get_put_eq]
    cases hg : am_get σ a with
    | none => rfl
    | some c =>
      cases c with
      | inr o => rfl
      | inl o =>
        rw [hg] at h
        dsimp only at h ⊢
        by_cases ho : o.1 = ci
        · rw [if_pos ho] at h ⊢
          have hl : ¬ k < o.2.length := by
            intro z
            rw [List.getElem?_eq_getElem z] at h
            cases h
          rw [List.getElem?_set]
          simp [hl]
        · rw [if_neg ho]
          rfl
theorem SH_put_i (h : SH σ) (hm : (a, ci, k) ∈ sh_I) (hr : ∀ q ∈ sh_R, ¬ (q.1 = a ∧ q.2.2.1 = k)) : SH (am_put σ a k (.int x)) := by
  obtain ⟨h1, h2, h3, h4, h5, h6⟩ := h
  refine ⟨fun q hq => ?_, fun q hq => ?_, fun q hq => ?_, fun q hq => ?_, fun q hq => ?_, by rw [put_1]; exact h6⟩
  · by_cases e : q.1 = a
    · rw [fld_put_k (fun z => hr q hq ⟨e, z⟩)]
      exact h1 q hq
    · rw [fld_put_ne e]
      exact h1 q hq
  · obtain ⟨qa, qc, qk⟩ := q
    by_cases e : qa = a
    · subst e
      by_cases e2 : qk = k
      · subst e2
        have hh := h2 _ hq
        have : qc = ci := fld_cls hh (h2 _ hm)
        subst this
        exact gi_of (fld_put_eq hh)
      · have hh := h2 _ hq
        refine gi_of (x := gi σ qa qc qk) ?_
        rw [fld_put_k e2]
        exact hh
    · have hh := h2 _ hq
      refine gi_of (x := gi σ qa qc qk) ?_
      rw [fld_put_ne e]
      exact hh
  · rw [j_put, ga_put]
    exact h3 q hq
  · rw [lv_put, gL_put]
    exact h4 q hq
  · rw [q_put, gq_put]
    exact h5 q hq
theorem SH_set (h : SH σ) (hR : ∀ q ∈ sh_R, ¬ q.1 = a) (hI : ∀ q ∈ sh_I, ¬ q.1 = a)
    (hJ : ∀ q ∈ sh_J, q.1 = a → ∃ f, am_j (am_set σ a c) a = some (q.2.1, q.2.2, f)) (hL : ∀ q ∈ sh_L, q.1 = a → ∃ f, am_lv (am_set σ a c) a = some (q.2, f)) (hQ : ∀ q ∈ sh_Q, q.1 = a → ∃ f, am_q (am_set σ a c) a = some (q.2.1, q.2.2, f)) : SH (am_set σ a c) := by
  obtain ⟨h1, h2, h3, h4, h5, h6⟩ := h
  refine ⟨fun q hq => ?_, fun q hq => ?_, fun q hq => ?_, fun q hq => ?_, fun q hq => ?_, h6⟩
  · rw [fld_set_ne (hR q hq)]; exact h1 q hq
  · rw [fld_set_ne (hI q hq), gi_set_ne (hI q hq)]; exact h2 q hq
  · by_cases e : q.1 = a
    · obtain ⟨f, hf⟩ := hJ q hq e
      rw [e, ga_eq hf, hf]
    · rw [j_set_ne e, ga_set_ne e]; exact h3 q hq
  · by_cases e : q.1 = a
    · obtain ⟨f, hf⟩ := hL q hq e
      rw [e, gL_eq hf, hf]
    · rw [lv_set_ne e, gL_set_ne e]; exact h4 q hq
  · by_cases e : q.1 = a
    · obtain ⟨f, hf⟩ := hQ q hq e
      rw [e, gq_eq hf, hf]
    · rw [q_set_ne e, gq_set_ne e]; exact h5 q hq
theorem SH_set_j {f : Nat → Int32} (h : SH σ) (hm : (a, kd, n) ∈ sh_J) (hR : ∀ q ∈ sh_R, ¬ q.1 = a) (hI : ∀ q ∈ sh_I, ¬ q.1 = a) (hL : ∀ q ∈ sh_L, ¬ q.1 = a) (hQ : ∀ q ∈ sh_Q, ¬ q.1 = a) : SH (am_set σ a (am_ia kd n f)) := by
  refine SH_set h hR hI (fun q hq e => ?_) (fun q hq e => absurd e (hL q hq)) (fun q hq e => absurd e (hQ q hq))
  have e1 := h.2.2.1 q hq
  have e2 := h.2.2.1 _ hm
  rw [e] at e1
  rw [e1] at e2
  cases q with | mk q1 q2 =>
  cases q2 with | mk q2 q3 =>
  cases e2
  exact ⟨f, j_set_eq⟩
theorem SH_set_l {f : Nat → Int64} (h : SH σ) (hm : (a, n) ∈ sh_L) (hR : ∀ q ∈ sh_R, ¬ q.1 = a) (hI : ∀ q ∈ sh_I, ¬ q.1 = a) (hJ : ∀ q ∈ sh_J, ¬ q.1 = a) (hQ : ∀ q ∈ sh_Q, ¬ q.1 = a) : SH (am_set σ a (am_la n f)) := by
  refine SH_set h hR hI (fun q hq e => absurd e (hJ q hq)) (fun q hq e => ?_) (fun q hq e => absurd e (hQ q hq))
  have e1 := h.2.2.2.1 q hq
  have e2 := h.2.2.2.1 _ hm
  rw [e] at e1
  rw [e1] at e2
  cases q with | mk q1 q2 =>
  cases e2
  exact ⟨f, lv_set_eq⟩
end SHP
