/-! THE START, 1: the heap as a list of cells -/
def lk (a : Nat) : List (Nat × am_C) → Option am_C
  | [] => none
  | q :: m => if a = q.1 then some q.2 else lk a m
def cpt (c : am_C) (j : Nat) (v : Value) : am_C := match c with
  | .inl o => .inl (o.1, o.2.set j v)
  | x => x
def lset (a j : Nat) (v : Value) : List (Nat × am_C) → List (Nat × am_C)
  | [] => []
  | q :: m => if a = q.1 then (q.1, cpt q.2 j v) :: m else q :: lset a j v m
def lrep (a : Nat) (c : am_C) : List (Nat × am_C) → List (Nat × am_C)
  | [] => [(a, c)]
  | q :: m => if a = q.1 then (q.1, c) :: m else q :: lrep a c m
def hp (L : Nat) (xs : Nat → Int32) (k s : Nat) (m : List (Nat × am_C)) : am_H := (k, s, fun a => if a < am_top then lk a m else am_x L xs (a - am_top))
theorem lk_set (a j : Nat) (v : Value) : ∀ m b, lk b (lset a j v m) = if b = a then (lk a m).map (fun c => cpt c j v) else lk b m := by
  intro m
  induction m with
  | nil => intro b; simp [lset, lk]
  | cons q m ih =>
    intro b
    simp only [lset, lk]
    by_cases e : a = q.1
    · rw [if_pos e, if_pos e]
      simp only [lk]
      by_cases e2 : b = q.1
      · rw [if_pos e2, if_pos (e2.trans e.symm)]
        rfl
      · rw [if_neg e2, if_neg e2, if_neg (fun z => e2 (z.trans e))]
    · rw [if_neg e, if_neg e]
      simp only [lk]
      by_cases e2 : b = q.1
      · rw [if_pos e2, if_pos e2, if_neg (fun z => e (z.symm.trans e2))]
      · rw [if_neg e2, if_neg e2, ih]
theorem lk_rep (a : Nat) (c : am_C) : ∀ m b, lk b (lrep a c m) = if b = a then some c else lk b m := by
  intro m
  induction m with
  | nil => intro b; simp [lrep, lk]
  | cons q m ih =>
    intro b
    simp only [lrep, lk]
    by_cases e : a = q.1
    · rw [if_pos e]
      simp only [lk]
      by_cases e2 : b = q.1
      · rw [if_pos e2, if_pos (e2.trans e.symm)]
      · rw [if_neg e2, if_neg e2, if_neg (fun z => e2 (z.trans e))]
    · rw [if_neg e]
      simp only [lk]
      by_cases e2 : b = q.1
      · rw [if_pos e2, if_pos e2, if_neg (fun z => e (z.symm.trans e2))]
      · rw [if_neg e2, if_neg e2, ih]
section HPs
variable {L k s n a ci j : Nat} {xs : Nat → Int32} {m : List (Nat × am_C)} {c : am_C} {v : Value}
theorem hp_0 : am_σ0 L xs = hp L xs 0 0 [] := rfl
theorem hp_1 : (hp L xs k s m).1 = k := rfl
theorem hp_get (h : a < 1000000) : am_get (hp L xs k s m) a = lk a m := if_pos h
theorem hp_new (h : k < 1000000) : am_new (hp L xs k s m) n c = hp L xs (k + 1) (s + n) ((k, c) :: m) := by
  unfold am_new hp
  refine Prod.ext rfl (Prod.ext rfl (funext fun b => ?_))
  dsimp only
  simp only [lk]
  by_cases e : b = k
  · rw [if_pos e, if_pos e, if_pos (show b < 1000000 by omega)]
  · rw [if_neg e, if_neg e]
theorem hp_set (h : a < 1000000) : am_set (hp L xs k s m) a c = hp L xs k s (lrep a c m) := by
  unfold am_set hp
  refine Prod.ext rfl (Prod.ext rfl (funext fun b => ?_))
  dsimp only
  rw [lk_rep]
  by_cases e : b = a
  · rw [if_pos e, if_pos e, if_pos (show b < 1000000 by omega)]
  · rw [if_neg e, if_neg e]
theorem hp_put (h : a < 1000000) : am_put (hp L xs k s m) a j v = hp L xs k s (lset a j v m) := by
  have e : ∀ b, lk b (lset a j v m) = if b = a then (lk a m).map (fun c => cpt c j v) else lk b m := lk_set a j v m
  have same : ((lk a m).map (fun c => cpt c j v) = lk a m) → hp L xs k s m = hp L xs k s (lset a j v m) := by
    intro h2
    unfold hp
    refine Prod.ext rfl (Prod.ext rfl (funext fun b => ?_))
    dsimp only
    rw [e b, h2]
    by_cases e2 : b = a
    · rw [if_pos e2, e2]
    · rw [if_neg e2]
  unfold am_put
  rw [hp_get h]
  cases hw : lk a m with
  | none =>
    rw [hw] at same
    exact same rfl
  | some c =>
    rw [hw] at same
    cases c with
    | inr o => exact same rfl
    | inl o =>
      dsimp only
      rw [hp_set h]
      unfold hp
      refine Prod.ext rfl (Prod.ext rfl (funext fun b => ?_))
      dsimp only
      rw [e b, lk_rep, hw]
      rfl
def flo (o : Option am_C) (ci j : Nat) : Option Value := match o with
  | some (.inl o) => if o.1 = ci then o.2[j]? else none
  | _ => none
def jlo (o : Option am_C) : Option (Nat × Nat × (Nat → Int32)) := match o with
  | some (.inr (.inl o)) => some o
  | _ => none
theorem hp_fld (h : a < 1000000) : am_fld (hp L xs k s m) a ci j = flo (lk a m) ci j := by
  unfold am_fld flo
  rw [hp_get h]
  cases lk a m with
  | none => rfl
  | some c => cases c <;> rfl
theorem hp_j (h : a < 1000000) : am_j (hp L xs k s m) a = jlo (lk a m) := by
  unfold am_j jlo
  rw [hp_get h]
  cases lk a m with
  | none => rfl
  | some c =>
    cases c with
    | inl o => rfl
    | inr o => cases o <;> rfl
theorem hp_nv (h : a < 1000000) : am_nv (hp L xs k s m) a = match lk a m with | some (.inr (.inl o)) => some o.2.1 | some (.inr (.inr (.inl o))) => some o.1 | some (.inr (.inr (.inr o))) => some o.2.1 | _ => none := by
  unfold am_nv
  rw [hp_get h]
  cases lk a m with
  | none => rfl
  | some c =>
    cases c with
    | inl o => rfl
    | inr o =>
      cases o with
      | inl o => rfl
      | inr o => cases o <;> rfl
theorem hp_mk (h : ¬ (nI n < 0)) (h1 : n < 2 ^ 31) (h2 : n ≤ 1000000) (h3 : k < 1000000) : am_mk (nI n) (hp L xs k s m) = True := by
  refine eq_true ?_
  unfold am_mk
  rw [nI_clamp h1, hp_1]
  intro z
  rcases z with z | z | z
  · exact h z
  · exact absurd z (by show ¬ 1000000 < n; omega)
  · exact absurd z (by show ¬ 1000000 ≤ k; omega)
theorem flo_ob {l : List Value} : flo (some (am_ob ci l)) ci j = l[j]? := by simp [flo, am_ob]
theorem jlo_ia {kd : Nat} {f : Nat → Int32} : jlo (some (am_ia kd n f)) = some (kd, n, f) := rfl
theorem cpt_ob {l : List Value} : cpt (am_ob ci l) j v = am_ob ci (l.set j v) := rfl
end HPs
