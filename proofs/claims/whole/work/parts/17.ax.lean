/-! RUNS AS PREDICATES: 'ax k pc ls st σ Q': from there method k ends, and Q holds of its answer and heap -/
def ax (k pc : Nat) (ls : am_L) (st : List Value) (σ : am_H) (Q : Option Value → am_H → Prop) : Prop := ∃ (f : Nat) (r : Option Value) (σ' : am_H), am_run am_dfl am_ms f k pc ls st σ = some (r, σ') ∧ Q r σ'
/-- what a caller does with the answer -/
def ax_k (k pc : Nat) (ls : am_L) (st : List Value) (Q : Option Value → am_H → Prop) (r : Option Value) (σ : am_H) : Prop := ax k pc ls (r.toList ++ st) σ Q
theorem ax_k_some (k pc : Nat) (ls : am_L) (st : List Value) (Q : Option Value → am_H → Prop) (v : Value) (σ : am_H) : ax_k k pc ls st Q (some v) σ = ax k pc ls (v :: st) σ Q := rfl
theorem ax_k_none (k pc : Nat) (ls : am_L) (st : List Value) (Q : Option Value → am_H → Prop) (σ : am_H) : ax_k k pc ls st Q none σ = ax k pc ls st σ Q := rfl
def am_cd (k pc : Nat) : Option (Option FieldType × Instr × am_K) := match am_ms[k]? with
  | none => none
  | some M => match am_at M.2.2.2.2.1 pc with
    | none => none
    | some q => some (M.2.2.2.1, q.1, q.2.2)
theorem am_cd_row {k pc : Nat} {rt : Option FieldType} {i : Instr} {K : am_K} (h : am_cd k pc = some (rt, i, K)) : ∃ M L, am_ms[k]? = some M ∧ am_at M.2.2.2.2.1 pc = some (i, L, K) ∧ M.2.2.2.1 = rt := by
  unfold am_cd at h
  split at h
  · cases h
  · rename_i M hM
    split at h
    · cases h
    · rename_i q hq
      cases h
      exact ⟨M, q.2.1, hM, hq, rfl⟩
theorem am_run_fuel {dfl : List (List Value)} {ms : List am_M} : ∀ (f j pc : Nat) (ls : am_L) (st : List Value) (σ : am_H) (x : Option Value × am_H), am_run dfl ms f j pc ls st σ = some x → ∀ g, f ≤ g → am_run dfl ms g j pc ls st σ = some x := by
  intro f
  induction f with
  | zero => intro j pc ls st σ x h; cases h
  | succ f ih =>
    intro j pc ls st σ x h g hg
    obtain ⟨r, σ'⟩ := x
    obtain ⟨g', rfl⟩ : ∃ g', g = g' + 1 := ⟨g - 1, by omega⟩
    obtain ⟨M, i, L, K, hM, hat, hs⟩ := am_run_step h
    rcases hs with ⟨pc', ls', st', σ1, h2, h3⟩ | ⟨j', as, st', M', r1, σ1, h1, h2, h3, h4, h5⟩ | ⟨h1, rfl⟩
    · simp only [am_run, hM, hat, h2]
      exact ih _ _ _ _ _ _ h3 g' (by omega)
    · simp only [am_run, hM, hat, h1, h2, if_pos h3, ih _ _ _ _ _ _ h4 g' (by omega)]
      exact ih _ _ _ _ _ _ h5 g' (by omega)
    · simp only [am_run, hM, hat, h1]
section AX
variable {k pc pc' : Nat} {ls : am_L} {st : List Value} {σ : am_H} {Q : Option Value → am_H → Prop} {rt : Option FieldType} {i : Instr} {K : am_K}
theorem ax_go (h : am_cd k pc = some (rt, i, K)) {ls' : am_L} {st' : List Value} {σ' : am_H} (hs : am_stp am_dfl rt i K pc ls st σ = some (.inl (pc', ls', st', σ'))) : ax k pc ls st σ Q = ax k pc' ls' st' σ' Q := by
  obtain ⟨M, L, hM, hat, rfl⟩ := am_cd_row h
  refine propext ⟨fun hh => ?_, fun hh => ?_⟩
  · obtain ⟨f, r, σ2, h1, h2⟩ := hh
    cases f with
    | zero => cases h1
    | succ f =>
      simp only [am_run, hM, hat, hs] at h1
      exact ⟨f, r, σ2, h1, h2⟩
  · obtain ⟨f, r, σ2, h1, h2⟩ := hh
    refine ⟨f + 1, r, σ2, ?_, h2⟩
    simp only [am_run, hM, hat, hs]
    exact h1
theorem ax_no (h : am_cd k pc = some (rt, i, K)) (hs : am_stp am_dfl rt i K pc ls st σ = none) : ax k pc ls st σ Q = False := by
  obtain ⟨M, L, hM, hat, rfl⟩ := am_cd_row h
  refine propext ⟨fun hh => ?_, fun hh => hh.elim⟩
  obtain ⟨f, r, σ2, h1, h2⟩ := hh
  cases f with
  | zero => cases h1
  | succ f =>
    simp only [am_run, hM, hat, hs] at h1
    cases h1
theorem ax_ret (h : am_cd k pc = some (rt, i, K)) {r : Option Value} (hs : am_stp am_dfl rt i K pc ls st σ = some (.inr (.inr r))) : ax k pc ls st σ Q = Q r σ := by
  obtain ⟨M, L, hM, hat, rfl⟩ := am_cd_row h
  refine propext ⟨fun hh => ?_, fun hh => ?_⟩
  · obtain ⟨f, r', σ2, h1, h2⟩ := hh
    cases f with
    | zero => cases h1
    | succ f =>
      simp only [am_run, hM, hat, hs] at h1
      cases h1
      exact h2
  · refine ⟨1, r, σ, ?_, hh⟩
    simp only [am_run, hM, hat, hs]
theorem ax_call (h : am_cd k pc = some (rt, i, K)) {j : Nat} {as st' : List Value} {es : am_L} {M' : am_M} (hs : am_stp am_dfl rt i K pc ls st σ = some (.inr (.inl (j, as, st')))) (hM' : am_ms[j]? = some M') (he : am_in M'.2.2.1 as = es) (hl : es.length = M'.2.2.1) (hp : pc + 3 = pc') : ax k pc ls st σ Q = ax j 0 es [] σ (ax_k k pc' ls st' Q) := by
  obtain ⟨M, L, hM, hat, rfl⟩ := am_cd_row h
  subst he
  subst hp
  refine propext ⟨fun hh => ?_, fun hh => ?_⟩
  · obtain ⟨f, r, σ2, h1, h2⟩ := hh
    cases f with
    | zero => cases h1
    | succ f =>
      simp only [am_run, hM, hat, hs, hM', if_pos hl] at h1
      split at h1
      · cases h1
      · rename_i r1 σ1 hr1
        exact ⟨f, r1, σ1, hr1, f, r, σ2, h1, h2⟩
  · obtain ⟨f, r1, σ1, h1, g, r, σ2, h2, h3⟩ := hh
    refine ⟨max f g + 1, r, σ2, ?_, h3⟩
    simp only [am_run, hM, hat, hs, hM', if_pos hl, am_run_fuel _ _ _ _ _ _ _ h1 (max f g) (Nat.le_max_left _ _)]
    exact am_run_fuel _ _ _ _ _ _ _ h2 (max f g) (Nat.le_max_right _ _)
end AX
/-! views of the heap -/
def am_fld (σ : am_H) (a ci k : Nat) : Option Value := match am_get σ a with
  | some (.inl o) => if o.1 = ci then o.2[k]? else none
  | _ => none
def am_iv (σ : am_H) (kd a : Nat) : Option (Nat × (Nat → Int32)) := match am_get σ a with
  | some (.inr (.inl o)) => if o.1 = kd then some (o.2.1, o.2.2) else none
  | _ => none
def am_lv (σ : am_H) (a : Nat) : Option (Nat × (Nat → Int64)) := match am_get σ a with
  | some (.inr (.inr (.inl o))) => some o
  | _ => none
def am_qv (σ : am_H) (ci a : Nat) : Option (Nat × (Nat → Option Nat)) := match am_get σ a with
  | some (.inr (.inr (.inr o))) => if o.1 = ci then some (o.2.1, o.2.2) else none
  | _ => none
def am_nv (σ : am_H) (a : Nat) : Option Nat := match am_get σ a with
  | some (.inr (.inl o)) => some o.2.1
  | some (.inr (.inr (.inl o))) => some o.1
  | some (.inr (.inr (.inr o))) => some o.2.1
  | _ => none
def am_is (σ : am_H) (a ci : Nat) : Prop := ∃ fs, am_get σ a = some (.inl (ci, fs))
def am_put (σ : am_H) (a k : Nat) (v : Value) : am_H := match am_get σ a with
  | some (.inl o) => am_set σ a (.inl (o.1, o.2.set k v))
  | _ => σ
def ax_f {α : Type} (o : Option α) (F : α → Prop) : Prop := match o with
  | some v => F v
  | none => False
theorem ax_f_some {α : Type} (v : α) (F : α → Prop) : ax_f (some v) F = F v := rfl
def am_s8 (st : List Value) : Prop := (st.map fun v => v.category).sum ≤ 8
def am_c2 (o : Option Value) : Bool := match o with
  | some v => v.category == 2
  | none => false
theorem am_clr_c2 {ls : am_L} {m : Nat} {a : Option Value} (h : am_c2 a = false) (hl : ls[m]? = some a) : am_clr ls (m + 1) = ls := by
  simp only [am_clr, hl]
  cases a with
  | none => rfl
  | some v =>
    have h : (v.category == 2) = false := h
    have hv : ¬ v.category = 2 := by simpa using h
    simp [hv]
/-! rules, a lemma for each kind of instruction -/
section RU
variable {k pc pc' : Nat} {ls : am_L} {st : List Value} {σ : am_H} {Q : Option Value → am_H → Prop} {rt : Option FieldType} {i : Instr} {K : am_K}
theorem ru_pure {st' : List Value} (h : am_cd k pc = some (rt, i, K)) (hs : am_pure i st = some st') (hp : pc + am_len i = pc') : ax k pc ls st σ Q = ax k pc' ls st' σ Q := by
  subst hp
  exact ax_go h (by simp only [am_stp, hs])
theorem ru_div {x y : Int32} (h : am_cd k pc = some (rt, .idiv, K)) (hp : pc + 1 = pc') : ax k pc ls (.int y :: .int x :: st) σ Q = (¬ y = 0 ∧ ax k pc' ls (.int (x / y) :: st) σ Q) := by
  subst hp
  by_cases hy : y = 0
  · rw [ax_no h (by simp [am_stp, am_pure, am_loc, am_br, am_rd, am_wr, am_cl, am_rt, hy])]
    simp [hy]
  · rw [ax_go (pc' := pc + 1) (ls' := ls) (st' := .int (x / y) :: st) (σ' := σ) h (by simp [am_stp, am_pure, hy, am_len])]
    simp [hy]
theorem ru_rem {x y : Int32} (h : am_cd k pc = some (rt, .irem, K)) (hp : pc + 1 = pc') : ax k pc ls (.int y :: .int x :: st) σ Q = (¬ y = 0 ∧ ax k pc' ls (.int (x - x / y * y) :: st) σ Q) := by
  subst hp
  by_cases hy : y = 0
  · rw [ax_no h (by simp [am_stp, am_pure, am_loc, am_br, am_rd, am_wr, am_cl, am_rt, hy])]
    simp [hy]
  · rw [ax_go (pc' := pc + 1) (ls' := ls) (st' := .int (x - x / y * y) :: st) (σ' := σ) h (by simp [am_stp, am_pure, hy, am_len])]
    simp [hy]
theorem ru_ldiv {x y : Int64} (h : am_cd k pc = some (rt, .ldiv, K)) (hp : pc + 1 = pc') : ax k pc ls (.long y :: .long x :: st) σ Q = (¬ y = 0 ∧ ax k pc' ls (.long (x / y) :: st) σ Q) := by
  subst hp
  by_cases hy : y = 0
  · rw [ax_no h (by simp [am_stp, am_pure, am_loc, am_br, am_rd, am_wr, am_cl, am_rt, hy])]
    simp [hy]
  · rw [ax_go (pc' := pc + 1) (ls' := ls) (st' := .long (x / y) :: st) (σ' := σ) h (by simp [am_stp, am_pure, hy, am_len])]
    simp [hy]
theorem ru_loc {q : am_L × List Value} (h : am_cd k pc = some (rt, i, K)) (h0 : am_pure i st = none) (hs : am_loc i ls st = some q) (hp : pc + am_len i = pc') : ax k pc ls st σ Q = ax k pc' q.1 q.2 σ Q := by
  subst hp
  exact ax_go h (by simp only [am_stp, h0, hs])
theorem ru_st1 {n : Nat} {x : Value} {ls' : am_L} (hn : n < ls.length) (hc : am_clr ls n = ls) (hl : ls.set n (some x) = ls') : am_st1 ls n x = ls' := by
  rw [am_st1, hc, hl]
theorem ru_st2 {n : Nat} {x : Value} {ls' : am_L} (hn : n < ls.length) (hc : am_clr ls n = ls) (hl : (ls.set n (some x)).set (n + 1) none = ls') : am_st2 ls n x = ls' := by
  rw [am_st2, hc, hl]
theorem ru_br {q : Nat × List Value} (h : am_cd k pc = some (rt, i, K)) (h0 : am_pure i st = none) (h1 : am_loc i ls st = none) (hs : am_br i K pc st = some q) : ax k pc ls st σ Q = ax k q.1 ls q.2 σ Q := ax_go h (by simp only [am_stp, h0, h1, hs])
theorem ru_rd {st' : List Value} (h : am_cd k pc = some (rt, i, K)) (h0 : am_pure i st = none) (h1 : am_loc i ls st = none) (h2 : am_br i K pc st = none) (hs : am_rd i K st σ = some st') (hp : pc + am_len i = pc') : ax k pc ls st σ Q = ax k pc' ls st' σ Q := by
  subst hp
  exact ax_go h (by simp only [am_stp, h0, h1, h2, hs])
theorem ru_wr {q : List Value × am_H} (h : am_cd k pc = some (rt, i, K)) (h0 : am_pure i st = none) (h1 : am_loc i ls st = none) (h2 : am_br i K pc st = none) (h3 : am_rd i K st σ = none) (hs : am_wr am_dfl i K st σ = some q) (hp : pc + am_len i = pc') : ax k pc ls st σ Q = ax k pc' ls q.1 q.2 Q := by
  subst hp
  exact ax_go h (by simp only [am_stp, h0, h1, h2, h3, hs])
theorem ru_goto {o : Int} (h : am_cd k pc = some (rt, .goto o, K)) : ax k pc ls st σ Q = ax k K.1 ls st σ Q := ru_br h rfl rfl rfl
theorem ru_if {c : Jvm.ClassFile.Cond} {o : Int} {x : Int32} (h : am_cd k pc = some (rt, .ifCond c o, K)) (hp : pc + 3 = pc') : ax k pc ls (.int x :: st) σ Q = (if am_cb c x 0 = true then ax k K.1 ls st σ Q else ax k pc' ls st σ Q) := by
  subst hp
  rw [ru_br (q := (if am_cb c x 0 = true then K.1 else pc + 3, st)) h rfl rfl rfl]
  by_cases hb : am_cb c x 0 = true <;> simp [hb]
theorem ru_icmp {c : Jvm.ClassFile.Cond} {o : Int} {x y : Int32} (h : am_cd k pc = some (rt, .if_icmp c o, K)) (hp : pc + 3 = pc') : ax k pc ls (.int y :: .int x :: st) σ Q = (if am_cb c x y = true then ax k K.1 ls st σ Q else ax k pc' ls st σ Q) := by
  subst hp
  rw [ru_br (q := (if am_cb c x y = true then K.1 else pc + 3, st)) h rfl rfl rfl]
  by_cases hb : am_cb c x y = true <;> simp [hb]
theorem ru_i_eq (x y : Int32) (A B : Prop) : (if am_cb .eq x y = true then A else B) = (if x = y then A else B) := by simp [am_cb]
theorem ru_i_ne (x y : Int32) (A B : Prop) : (if am_cb .ne x y = true then A else B) = (if x = y then B else A) := by
  by_cases h : x = y <;> simp [am_cb, h]
theorem ru_i_lt (x y : Int32) (A B : Prop) : (if am_cb .lt x y = true then A else B) = (if x < y then A else B) := by simp [am_cb]
theorem ru_i_gt (x y : Int32) (A B : Prop) : (if am_cb .gt x y = true then A else B) = (if y < x then A else B) := by simp [am_cb]
theorem ru_i_ge (x y : Int32) (A B : Prop) : (if am_cb .ge x y = true then A else B) = (if x < y then B else A) := by
  by_cases h : x < y
  · have h2 : ¬ y ≤ x := Int32.not_le.mpr h
    simp [am_cb, h, h2]
  · have h2 : y ≤ x := Int32.not_lt.mp h
    simp [am_cb, h, h2]
theorem ru_i_le (x y : Int32) (A B : Prop) : (if am_cb .le x y = true then A else B) = (if y < x then B else A) := by
  by_cases h : y < x
  · have h2 : ¬ x ≤ y := Int32.not_le.mpr h
    simp [am_cb, h, h2]
  · have h2 : x ≤ y := Int32.not_lt.mp h
    simp [am_cb, h, h2]
theorem ru_ret {r : Option Value} (h : am_cd k pc = some (rt, i, K)) (h0 : am_pure i st = none) (h1 : am_loc i ls st = none) (h2 : am_br i K pc st = none) (h3 : am_rd i K st σ = none) (h4 : am_wr am_dfl i K st σ = none) (h5 : am_cl i K st σ = none) (hs : am_rt rt i st = some r) : ax k pc ls st σ Q = Q r σ := ax_ret h (by simp only [am_stp, h0, h1, h2, h3, h4, h5, hs, Option.map_some])
theorem ru_iret {ty : FieldType} {v : Int32} (h : am_cd k pc = some (some ty, .ireturn, K)) : ax k pc ls [.int v] σ Q = (am_nar ty v = true ∧ Q (some (.int v)) σ) := by
  by_cases hn : am_nar ty v = true
  · rw [ru_ret (r := some (.int v)) h rfl rfl rfl rfl rfl rfl (by simp [am_rt, hn])]
    simp [hn]
  · rw [ax_no h (by simp [am_stp, am_pure, am_loc, am_br, am_rd, am_wr, am_cl, am_rt, hn])]
    simp [hn]
theorem ru_getf {x a : Nat} (h : am_cd k pc = some (rt, .getfield x, K)) (hp : pc + 3 = pc') : ax k pc ls (.ref a :: st) σ Q = ax_f (am_fld σ a K.1 K.2.1) (fun v => ax k pc' ls (v :: st) σ Q) := by
  subst hp
  unfold am_fld
  cases hg : am_get σ a with
  | none => rw [ax_no h (by simp [am_stp, am_pure, am_loc, am_br, am_rd, am_wr, am_cl, am_rt, hg])]; rfl
  | some c =>
    cases c with
    | inr c => rw [ax_no h (by simp [am_stp, am_pure, am_loc, am_br, am_rd, am_wr, am_cl, am_rt, hg])]; rfl
    | inl o =>
      by_cases ho : o.1 = K.1
      · cases hv : o.2[K.2.1]? with
        | none =>
          rw [ax_no h (by simp [am_stp, am_pure, am_loc, am_br, am_rd, am_wr, am_cl, am_rt, hg, ho, hv])]
          simp [ho, hv, ax_f]
        | some v =>
          rw [ru_rd (st' := v :: st) h rfl rfl rfl (by simp [am_rd, hg, ho, hv]) rfl]
          simp [ho, hv, ax_f, am_len]
      · rw [ax_no h (by simp [am_stp, am_pure, am_loc, am_br, am_rd, am_wr, am_cl, am_rt, hg, ho])]
        simp [ho, ax_f]
theorem ru_putf {x a : Nat} {v : Value} (h : am_cd k pc = some (rt, .putfield x, K)) (hp : pc + 3 = pc') : ax k pc ls (v :: .ref a :: st) σ Q = ax_f (am_fld σ a K.1 K.2.1) (fun _ => a < am_top ∧ am_okv K.2.2.2.2.1 v = true ∧ ax k pc' ls st (am_put σ a K.2.1 v) Q) := by
  subst hp
  unfold am_fld am_put
  cases hg : am_get σ a with
  | none => rw [ax_no h (by simp [am_stp, am_pure, am_loc, am_br, am_rd, am_wr, am_cl, am_rt, hg])]; rfl
  | some c =>
    cases c with
    | inr c => rw [ax_no h (by simp [am_stp, am_pure, am_loc, am_br, am_rd, am_wr, am_cl, am_rt, hg])]; rfl
    | inl o =>
      by_cases ho : o.1 = K.1
      · cases hv : o.2[K.2.1]? with
        | none =>
          have hlt : ¬ K.2.1 < o.2.length := by
            intro hh
            rw [List.getElem?_eq_getElem hh] at hv
            cases hv
          rw [ax_no h (by simp [am_stp, am_pure, am_loc, am_br, am_rd, am_wr, am_cl, am_rt, hg, ho, hlt])]
          simp [ho, hv, ax_f]
        | some w =>
          have hlt : K.2.1 < o.2.length := (List.getElem?_eq_some_iff.mp hv).1
          by_cases hc : a < am_top ∧ am_okv K.2.2.2.2.1 v = true
          · rw [ru_wr (q := (st, am_set σ a (.inl (o.1, o.2.set K.2.1 v)))) h rfl rfl rfl rfl (by simp [am_wr, hg, ho, hlt, hc.1, hc.2]) rfl]
            simp only [ho, hv, if_true, ax_f_some, hc.1, hc.2, true_and, am_len]
          · rw [ax_no h (by
              simp only [am_stp, am_pure, am_loc, am_br, am_rd, am_wr, am_cl, am_rt, hg]
              rw [if_neg (fun z => hc ⟨z.2.1, z.2.2.2⟩)]
              rfl)]
            simp only [ho, hv, if_true, ax_f_some]
            exact propext ⟨fun z => z.elim, fun z => hc ⟨z.1, z.2.1⟩⟩
      · rw [ax_no h (by simp [am_stp, am_pure, am_loc, am_br, am_rd, am_wr, am_cl, am_rt, hg, ho])]
        simp [ho, ax_f]
end RU
