/-! RULES of arrays, makings, calls -/
section RU2
variable {k pc pc' : Nat} {ls : am_L} {st : List Value} {σ : am_H} {Q : Option Value → am_H → Prop} {rt : Option FieldType} {i : Instr} {K : am_K}
def am_ix (i : Int32) (n : Nat) : Prop := ¬ (i < 0 ∨ n ≤ i.toNatClampNeg)
theorem ru_iald {j : Int32} {a : Nat} (h : am_cd k pc = some (rt, .iaload, K)) (hp : pc + 1 = pc') : ax k pc ls (.int j :: .ref a :: st) σ Q = ax_f (am_iv σ 0 a) (fun q => am_ix j q.1 ∧ ax k pc' ls (.int (q.2 j.toNatClampNeg) :: st) σ Q) := by
  subst hp
  unfold am_iv
  cases hg : am_get σ a with
  | none => rw [ax_no h (by simp [am_stp, am_pure, am_loc, am_br, am_rd, am_wr, am_cl, am_rt, hg])]; rfl
  | some c =>
    match c, hg with
    | .inl o, hg => rw [ax_no h (by simp [am_stp, am_pure, am_loc, am_br, am_rd, am_wr, am_cl, am_rt, hg])]; rfl
    | .inr (.inr o), hg => rw [ax_no h (by simp [am_stp, am_pure, am_loc, am_br, am_rd, am_wr, am_cl, am_rt, hg])]; rfl
    | .inr (.inl (kd, n, f)), hg =>
      by_cases ho : kd = 0
      · subst ho
        by_cases hin : j < 0 ∨ n ≤ j.toNatClampNeg
        · rw [ax_no h (by simp [am_stp, am_pure, am_loc, am_br, am_rd, am_wr, am_cl, am_rt, hg, hin])]
          simp [ax_f, am_ix, hin]
        · rw [ru_rd (st' := .int (f j.toNatClampNeg) :: st) h rfl rfl rfl (by simp [am_rd, hg, hin]) rfl]
          simp [ax_f, am_ix, hin, am_len]
      · rw [ax_no h (by simp [am_stp, am_pure, am_loc, am_br, am_rd, am_wr, am_cl, am_rt, hg, ho])]
        simp [ho, ax_f]
theorem ru_bald (kd : Nat) (hkd : kd = 1 ∨ kd = 2) {j : Int32} {a : Nat} {n : Nat} {f : Nat → Int32} (h : am_cd k pc = some (rt, .baload, K)) (hp : pc + 1 = pc') (hv : am_iv σ kd a = some (n, f)) : ax k pc ls (.int j :: .ref a :: st) σ Q = (am_ix j n ∧ ax k pc' ls (.int (f j.toNatClampNeg) :: st) σ Q) := by
  subst hp
  unfold am_iv at hv
  cases hg : am_get σ a with
  | none => rw [hg] at hv; cases hv
  | some c =>
    match c, hg with
    | .inl o, hg => rw [hg] at hv; cases hv
    | .inr (.inr o), hg => rw [hg] at hv; cases hv
    | .inr (.inl (kd', n', f')), hg =>
      rw [hg] at hv
      dsimp only at hv
      split at hv
      · rename_i ho
        subst ho
        cases hv
        by_cases hin : j < 0 ∨ n ≤ j.toNatClampNeg
        · rw [ax_no h (by simp [am_stp, am_pure, am_loc, am_br, am_rd, am_wr, am_cl, am_rt, hg, hin])]
          simp [am_ix, hin]
        · rw [ru_rd (st' := .int (f j.toNatClampNeg) :: st) h rfl rfl rfl (by simp [am_rd, hg, hin, hkd]) rfl]
          simp [am_ix, hin, am_len]
      · cases hv
theorem ru_lald {j : Int32} {a : Nat} (h : am_cd k pc = some (rt, .laload, K)) (hp : pc + 1 = pc') : ax k pc ls (.int j :: .ref a :: st) σ Q = ax_f (am_lv σ a) (fun q => am_ix j q.1 ∧ ax k pc' ls (.long (q.2 j.toNatClampNeg) :: st) σ Q) := by
  subst hp
  unfold am_lv
  cases hg : am_get σ a with
  | none => rw [ax_no h (by simp [am_stp, am_pure, am_loc, am_br, am_rd, am_wr, am_cl, am_rt, hg])]; rfl
  | some c =>
    match c, hg with
    | .inl o, hg => rw [ax_no h (by simp [am_stp, am_pure, am_loc, am_br, am_rd, am_wr, am_cl, am_rt, hg])]; rfl
    | .inr (.inl o), hg => rw [ax_no h (by simp [am_stp, am_pure, am_loc, am_br, am_rd, am_wr, am_cl, am_rt, hg])]; rfl
    | .inr (.inr (.inr o)), hg => rw [ax_no h (by simp [am_stp, am_pure, am_loc, am_br, am_rd, am_wr, am_cl, am_rt, hg])]; rfl
    | .inr (.inr (.inl (n, f))), hg =>
      by_cases hin : j < 0 ∨ n ≤ j.toNatClampNeg
      · rw [ax_no h (by simp [am_stp, am_pure, am_loc, am_br, am_rd, am_wr, am_cl, am_rt, hg, hin])]
        simp [ax_f, am_ix, hin]
      · rw [ru_rd (st' := .long (f j.toNatClampNeg) :: st) h rfl rfl rfl (by simp [am_rd, hg, hin]) rfl]
        simp [ax_f, am_ix, hin, am_len]
theorem ru_aald (ci : Nat) {j : Int32} {a n : Nat} {f : Nat → Option Nat} (h : am_cd k pc = some (rt, .aaload, K)) (hp : pc + 1 = pc') (hv : am_qv σ ci a = some (n, f)) : ax k pc ls (.int j :: .ref a :: st) σ Q = (am_ix j n ∧ ax k pc' ls (va_rf (f j.toNatClampNeg) :: st) σ Q) := by
  subst hp
  unfold am_qv at hv
  cases hg : am_get σ a with
  | none => rw [hg] at hv; cases hv
  | some c =>
    match c, hg with
    | .inl o, hg => rw [hg] at hv; cases hv
    | .inr (.inl o), hg => rw [hg] at hv; cases hv
    | .inr (.inr (.inl o)), hg => rw [hg] at hv; cases hv
    | .inr (.inr (.inr (cj, n', f'))), hg =>
      rw [hg] at hv
      dsimp only at hv
      split at hv
      · cases hv
        by_cases hin : j < 0 ∨ n ≤ j.toNatClampNeg
        · rw [ax_no h (by simp [am_stp, am_pure, am_loc, am_br, am_rd, am_wr, am_cl, am_rt, hg, hin])]
          simp [am_ix, hin]
        · rw [ru_rd (st' := va_rf (f j.toNatClampNeg) :: st) h rfl rfl rfl (by simp [am_rd, hg, hin]) rfl]
          simp [am_ix, hin, am_len]
      · cases hv
theorem ru_alen {a : Nat} (h : am_cd k pc = some (rt, .arraylength, K)) (hp : pc + 1 = pc') : ax k pc ls (.ref a :: st) σ Q = ax_f (am_nv σ a) (fun n => ax k pc' ls (.int (Int32.ofNat n) :: st) σ Q) := by
  subst hp
  unfold am_nv
  cases hg : am_get σ a with
  | none => rw [ax_no h (by simp [am_stp, am_pure, am_loc, am_br, am_rd, am_wr, am_cl, am_rt, hg])]; rfl
  | some c =>
    match c, hg with
    | .inl o, hg => rw [ax_no h (by simp [am_stp, am_pure, am_loc, am_br, am_rd, am_wr, am_cl, am_rt, hg])]; rfl
    | .inr (.inl (kd, n, f)), hg => rw [ru_rd (st' := .int (Int32.ofNat n) :: st) h rfl rfl rfl (by simp [am_rd, hg]) rfl]; rfl
    | .inr (.inr (.inl (n, f))), hg => rw [ru_rd (st' := .int (Int32.ofNat n) :: st) h rfl rfl rfl (by simp [am_rd, hg]) rfl]; rfl
    | .inr (.inr (.inr (cj, n, f))), hg => rw [ru_rd (st' := .int (Int32.ofNat n) :: st) h rfl rfl rfl (by simp [am_rd, hg]) rfl]; rfl
theorem ru_iast {j x : Int32} {a : Nat} (h : am_cd k pc = some (rt, .iastore, K)) (hp : pc + 1 = pc') : ax k pc ls (.int x :: .int j :: .ref a :: st) σ Q = ax_f (am_iv σ 0 a) (fun q => am_ix j q.1 ∧ a < am_top ∧ ax k pc' ls st (am_set σ a (am_ia 0 q.1 (upd q.2 j.toNatClampNeg x))) Q) := by
  subst hp
  unfold am_iv
  cases hg : am_get σ a with
  | none => rw [ax_no h (by simp [am_stp, am_pure, am_loc, am_br, am_rd, am_wr, am_cl, am_rt, hg])]; rfl
  | some c =>
    match c, hg with
    | .inl o, hg => rw [ax_no h (by simp [am_stp, am_pure, am_loc, am_br, am_rd, am_wr, am_cl, am_rt, hg])]; rfl
    | .inr (.inr o), hg => rw [ax_no h (by simp [am_stp, am_pure, am_loc, am_br, am_rd, am_wr, am_cl, am_rt, hg])]; rfl
    | .inr (.inl (kd, n, f)), hg =>
      by_cases ho : kd = 0
      · subst ho
        by_cases ha : a < am_top
        · by_cases hin : j < 0 ∨ n ≤ j.toNatClampNeg
          · rw [ax_no h (by simp [am_stp, am_pure, am_loc, am_br, am_rd, am_wr, am_cl, am_rt, hg, hin])]
            simp [ax_f, am_ix, hin]
          · rw [ru_wr (q := (st, am_set σ a (.inr (.inl (0, n, upd f j.toNatClampNeg x))))) h rfl rfl rfl rfl (by simp [am_wr, hg, hin, ha]) rfl]
            simp [ax_f, am_ix, hin, ha, am_len]
        · rw [ax_no h (by simp [am_stp, am_pure, am_loc, am_br, am_rd, am_wr, am_cl, am_rt, hg, ha])]
          simp [ax_f, ha]
      · rw [ax_no h (by simp [am_stp, am_pure, am_loc, am_br, am_rd, am_wr, am_cl, am_rt, hg, ho])]
        simp [ho, ax_f]
theorem ru_zast {j x : Int32} {a : Nat} (h : am_cd k pc = some (rt, .bastore, K)) (hp : pc + 1 = pc') : ax k pc ls (.int x :: .int j :: .ref a :: st) σ Q = ax_f (am_iv σ 1 a) (fun q => am_ix j q.1 ∧ a < am_top ∧ (x = 0 ∨ x = 1) ∧ ax k pc' ls st (am_set σ a (am_ia 1 q.1 (upd q.2 j.toNatClampNeg x))) Q) := by
  subst hp
  unfold am_iv
  cases hg : am_get σ a with
  | none => rw [ax_no h (by simp [am_stp, am_pure, am_loc, am_br, am_rd, am_wr, am_cl, am_rt, hg])]; rfl
  | some c =>
    match c, hg with
    | .inl o, hg => rw [ax_no h (by simp [am_stp, am_pure, am_loc, am_br, am_rd, am_wr, am_cl, am_rt, hg])]; rfl
    | .inr (.inr o), hg => rw [ax_no h (by simp [am_stp, am_pure, am_loc, am_br, am_rd, am_wr, am_cl, am_rt, hg])]; rfl
    | .inr (.inl (kd, n, f)), hg =>
      by_cases ho : kd = 1
      · subst ho
        by_cases ha : a < am_top ∧ (x = 0 ∨ x = 1)
        · by_cases hin : j < 0 ∨ n ≤ j.toNatClampNeg
          · rw [ax_no h (by simp [am_stp, am_pure, am_loc, am_br, am_rd, am_wr, am_cl, am_rt, hg, hin])]
            simp [ax_f, am_ix, hin]
          · rw [ru_wr (q := (st, am_set σ a (.inr (.inl (1, n, upd f j.toNatClampNeg x))))) h rfl rfl rfl rfl (by simp [am_wr, hg, hin, ha.1, ha.2]) rfl]
            simp [ax_f, am_ix, hin, ha.1, ha.2, am_len]
        · rw [ax_no h (by
            simp only [am_stp, am_pure, am_loc, am_br, am_rd, am_wr, am_cl, am_rt, hg]
            rw [if_neg (fun z => ha ⟨z.2.1, z.2.2⟩)]
            rfl)]
          simp only [if_true, ax_f_some]
          exact propext ⟨fun z => z.elim, fun z => ha ⟨z.2.1, z.2.2.1⟩⟩
      · rw [ax_no h (by simp [am_stp, am_pure, am_loc, am_br, am_rd, am_wr, am_cl, am_rt, hg, ho])]
        simp [ho, ax_f]
theorem ru_last {j : Int32} {x : Int64} {a : Nat} (h : am_cd k pc = some (rt, .lastore, K)) (hp : pc + 1 = pc') : ax k pc ls (.long x :: .int j :: .ref a :: st) σ Q = ax_f (am_lv σ a) (fun q => am_ix j q.1 ∧ a < am_top ∧ ax k pc' ls st (am_set σ a (am_la q.1 (vp_updL q.2 j.toNatClampNeg x))) Q) := by
  subst hp
  unfold am_lv
  cases hg : am_get σ a with
  | none => rw [ax_no h (by simp [am_stp, am_pure, am_loc, am_br, am_rd, am_wr, am_cl, am_rt, hg])]; rfl
  | some c =>
    match c, hg with
    | .inl o, hg => rw [ax_no h (by simp [am_stp, am_pure, am_loc, am_br, am_rd, am_wr, am_cl, am_rt, hg])]; rfl
    | .inr (.inl o), hg => rw [ax_no h (by simp [am_stp, am_pure, am_loc, am_br, am_rd, am_wr, am_cl, am_rt, hg])]; rfl
    | .inr (.inr (.inr o)), hg => rw [ax_no h (by simp [am_stp, am_pure, am_loc, am_br, am_rd, am_wr, am_cl, am_rt, hg])]; rfl
    | .inr (.inr (.inl (n, f))), hg =>
      by_cases ha : a < am_top
      · by_cases hin : j < 0 ∨ n ≤ j.toNatClampNeg
        · rw [ax_no h (by simp [am_stp, am_pure, am_loc, am_br, am_rd, am_wr, am_cl, am_rt, hg, hin])]
          simp [ax_f, am_ix, hin]
        · rw [ru_wr (q := (st, am_set σ a (.inr (.inr (.inl (n, vp_updL f j.toNatClampNeg x)))))) h rfl rfl rfl rfl (by simp [am_wr, hg, hin, ha]) rfl]
          simp [ax_f, am_ix, hin, ha, am_len]
      · rw [ax_no h (by simp [am_stp, am_pure, am_loc, am_br, am_rd, am_wr, am_cl, am_rt, hg, ha])]
        simp [ax_f, ha]
theorem ru_aast (ci : Nat) {j : Int32} {a y n : Nat} {f : Nat → Option Nat} (h : am_cd k pc = some (rt, .aastore, K)) (hp : pc + 1 = pc') (hv : am_qv σ ci a = some (n, f)) (hy : am_is σ y ci) (ha : a < am_top) (hyt : y < am_top) : ax k pc ls (.ref y :: .int j :: .ref a :: st) σ Q = (am_ix j n ∧ ax k pc' ls st (am_set σ a (am_qa ci n (va_up f j.toNatClampNeg (some y)))) Q) := by
  subst hp
  obtain ⟨fs, hfs⟩ := hy
  unfold am_qv at hv
  cases hg : am_get σ a with
  | none => rw [hg] at hv; cases hv
  | some c =>
    match c, hg with
    | .inl o, hg => rw [hg] at hv; cases hv
    | .inr (.inl o), hg => rw [hg] at hv; cases hv
    | .inr (.inr (.inl o)), hg => rw [hg] at hv; cases hv
    | .inr (.inr (.inr (cj, n', f'))), hg =>
      rw [hg] at hv
      dsimp only at hv
      split at hv
      · rename_i ho
        subst ho
        cases hv
        by_cases hin : j < 0 ∨ n ≤ j.toNatClampNeg
        · rw [ax_no h (by simp [am_stp, am_pure, am_loc, am_br, am_rd, am_wr, am_cl, am_rt, hg, hfs, hin])]
          simp [am_ix, hin]
        · rw [ru_wr (q := (st, am_set σ a (.inr (.inr (.inr (cj, n, va_up f j.toNatClampNeg (some y))))))) h rfl rfl rfl rfl (by simp [am_wr, hg, hfs, hin, ha, hyt]) rfl]
          simp [am_ix, hin, am_len]
      · cases hv
theorem ru_new {x : Nat} {fs : List Value} (h : am_cd k pc = some (rt, .new x, K)) (hd : am_dfl[K.1]? = some fs) (hp : pc + 3 = pc') : ax k pc ls st σ Q = (σ.1 < am_top ∧ ax k pc' ls (.ref σ.1 :: st) (am_new σ fs.length (am_ob K.1 fs)) Q) := by
  subst hp
  by_cases ht : σ.1 < am_top
  · rw [ru_wr (q := (.ref σ.1 :: st, am_new σ fs.length (.inl (K.1, fs)))) h rfl rfl rfl rfl (by simp [am_wr, hd, ht]) rfl]
    simp [ht, am_len]
  · rw [ax_no h (by simp [am_stp, am_pure, am_loc, am_br, am_rd, am_wr, am_cl, am_rt, hd, ht])]
    simp [ht]
def am_mk (n : Int32) (σ : am_H) : Prop := ¬ (n < 0 ∨ am_top < n.toNatClampNeg ∨ am_top ≤ σ.1)
theorem ru_newi {n : Int32} (h : am_cd k pc = some (rt, .newarray .int, K)) (hp : pc + 2 = pc') : ax k pc ls (.int n :: st) σ Q = (am_mk n σ ∧ ax k pc' ls (.ref σ.1 :: st) (am_new σ n.toNatClampNeg (am_ia 0 n.toNatClampNeg (fun _ => 0))) Q) := by
  subst hp
  by_cases ht : n < 0 ∨ am_top < n.toNatClampNeg ∨ am_top ≤ σ.1
  · rw [ax_no h (by simp [am_stp, am_pure, am_loc, am_br, am_rd, am_wr, am_cl, am_rt, ht])]
    simp [am_mk, ht]
  · rw [ru_wr (q := (.ref σ.1 :: st, am_new σ n.toNatClampNeg (am_ia 0 n.toNatClampNeg (fun _ => 0)))) h rfl rfl rfl rfl (by simp [am_wr, ht]) rfl]
    simp [am_mk, ht, am_len]
theorem ru_newz {n : Int32} (h : am_cd k pc = some (rt, .newarray .boolean, K)) (hp : pc + 2 = pc') : ax k pc ls (.int n :: st) σ Q = (am_mk n σ ∧ ax k pc' ls (.ref σ.1 :: st) (am_new σ n.toNatClampNeg (am_ia 1 n.toNatClampNeg (fun _ => 0))) Q) := by
  subst hp
  by_cases ht : n < 0 ∨ am_top < n.toNatClampNeg ∨ am_top ≤ σ.1
  · rw [ax_no h (by simp [am_stp, am_pure, am_loc, am_br, am_rd, am_wr, am_cl, am_rt, ht])]
    simp [am_mk, ht]
  · rw [ru_wr (q := (.ref σ.1 :: st, am_new σ n.toNatClampNeg (am_ia 1 n.toNatClampNeg (fun _ => 0)))) h rfl rfl rfl rfl (by simp [am_wr, ht]) rfl]
    simp [am_mk, ht, am_len]
theorem ru_newl {n : Int32} (h : am_cd k pc = some (rt, .newarray .long, K)) (hp : pc + 2 = pc') : ax k pc ls (.int n :: st) σ Q = (am_mk n σ ∧ ax k pc' ls (.ref σ.1 :: st) (am_new σ n.toNatClampNeg (am_la n.toNatClampNeg (fun _ => 0))) Q) := by
  subst hp
  by_cases ht : n < 0 ∨ am_top < n.toNatClampNeg ∨ am_top ≤ σ.1
  · rw [ax_no h (by simp [am_stp, am_pure, am_loc, am_br, am_rd, am_wr, am_cl, am_rt, ht])]
    simp [am_mk, ht]
  · rw [ru_wr (q := (.ref σ.1 :: st, am_new σ n.toNatClampNeg (am_la n.toNatClampNeg (fun _ => 0)))) h rfl rfl rfl rfl (by simp [am_wr, ht]) rfl]
    simp [am_mk, ht, am_len]
theorem ru_newq {x : Nat} {n : Int32} (h : am_cd k pc = some (rt, .anewarray x, K)) (hp : pc + 3 = pc') : ax k pc ls (.int n :: st) σ Q = (am_mk n σ ∧ ax k pc' ls (.ref σ.1 :: st) (am_new σ n.toNatClampNeg (am_qa K.1 n.toNatClampNeg (fun _ => none))) Q) := by
  subst hp
  by_cases ht : n < 0 ∨ am_top < n.toNatClampNeg ∨ am_top ≤ σ.1
  · rw [ax_no h (by simp [am_stp, am_pure, am_loc, am_br, am_rd, am_wr, am_cl, am_rt, ht])]
    simp [am_mk, ht]
  · rw [ru_wr (q := (.ref σ.1 :: st, am_new σ n.toNatClampNeg (am_qa K.1 n.toNatClampNeg (fun _ => none)))) h rfl rfl rfl rfl (by simp [am_wr, ht]) rfl]
    simp [am_mk, ht, am_len]
theorem ru_obj {x a : Nat} (h : am_cd k pc = some (rt, .invokespecial x, K)) (hK : K.1 = 99999) (h8 : am_s8 st) (hp : pc + 3 = pc') : ax k pc ls (.ref a :: st) σ Q = ax k pc' ls st σ Q := by
  subst hp
  have h8 : (st.map fun v => v.category).sum ≤ 8 := h8
  exact ru_rd h rfl rfl rfl (by simp [am_rd, hK, h8]) rfl
theorem ru_vir {x b ci n j : Nat} {as st' es : List _} {M' : am_M} (h : am_cd k pc = some (rt, .invokevirtual x, K)) (hj : K.1 = j) (hn : K.2.1 = n) (hci : K.2.2.2.2.1 = ci) (hd : st.drop n = .ref b :: st') (hi : am_is σ b ci) (h8 : am_s8 st') (ht : .ref b :: (st.take n).reverse = as) (hM' : am_ms[j]? = some M') (he : am_in M'.2.2.1 as = es) (hl : es.length = M'.2.2.1) (hp : pc + 3 = pc') : ax k pc ls st σ Q = ax j 0 es [] σ (ax_k k pc' ls st' Q) := by
  subst hj
  subst hn
  subst hci
  subst ht
  obtain ⟨fs, hfs⟩ := hi
  have h8 : (st'.map fun v => v.category).sum ≤ 8 := h8
  refine ax_call h ?_ hM' he hl hp
  simp [am_stp, am_pure, am_loc, am_br, am_rd, am_wr, am_cl, hd, hfs, h8]
theorem ru_spc {x b n j : Nat} {as st' es : List _} {M' : am_M} (h : am_cd k pc = some (rt, .invokespecial x, K)) (hj : K.1 = j) (hj9 : ¬ j = 99999) (hn : K.2.1 = n) (hd : st.drop n = .ref b :: st') (h8 : am_s8 st') (ht : .ref b :: (st.take n).reverse = as) (hM' : am_ms[j]? = some M') (he : am_in M'.2.2.1 as = es) (hl : es.length = M'.2.2.1) (hp : pc + 3 = pc') : ax k pc ls st σ Q = ax j 0 es [] σ (ax_k k pc' ls st' Q) := by
  subst hj
  subst hn
  subst ht
  have h8 : (st'.map fun v => v.category).sum ≤ 8 := h8
  refine ax_call h ?_ hM' he hl hp
  simp [am_stp, am_pure, am_loc, am_br, am_rd, am_wr, am_cl, hd, h8, hj9]
theorem ru_sta {x n j : Nat} {as st' es : List _} {M' : am_M} (h : am_cd k pc = some (rt, .invokestatic x, K)) (hj : K.1 = j) (hj9 : ¬ 99990 < j) (hn : K.2.1 = n) (hle : n ≤ st.length) (hd : st.drop n = st') (h8 : am_s8 st') (ht : (st.take n).reverse = as) (hM' : am_ms[j]? = some M') (he : am_in M'.2.2.1 as = es) (hl : es.length = M'.2.2.1) (hp : pc + 3 = pc') : ax k pc ls st σ Q = ax j 0 es [] σ (ax_k k pc' ls st' Q) := by
  subst hj
  subst hn
  subst ht
  subst hd
  have h8 : ((st.drop K.2.1).map fun v => v.category).sum ≤ 8 := h8
  refine ax_call h ?_ hM' he hl hp
  have e1 : ¬ K.1 = 99991 := by omega
  have e2 : ¬ K.1 = 99992 := by omega
  have e3 : ¬ K.1 = 99993 := by omega
  have ec : am_cl (.invokestatic x) K st σ = some (K.1, (st.take K.2.1).reverse, st.drop K.2.1) := by
    simp only [am_cl]
    rw [if_pos ⟨hle, h8⟩]
  simp only [am_stp, am_pure, am_loc, am_br, am_rd, am_wr, if_neg e1, if_neg e2, if_neg e3, ec]
end RU2
