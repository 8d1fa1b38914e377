/-! RULES, 3: arrays by one view; constants, stores, switches -/
def am_j (σ : am_H) (a : Nat) : Option (Nat × Nat × (Nat → Int32)) := match am_get σ a with
  | some (.inr (.inl o)) => some o
  | _ => none
def am_q (σ : am_H) (a : Nat) : Option (Nat × Nat × (Nat → Option Nat)) := match am_get σ a with
  | some (.inr (.inr (.inr o))) => some o
  | _ => none
theorem am_iv_j (σ : am_H) (kd a : Nat) (F : Nat × (Nat → Int32) → Prop) : ax_f (am_iv σ kd a) F = ax_f (am_j σ a) (fun q => q.1 = kd ∧ F q.2) := by
  unfold am_iv am_j
  cases am_get σ a with
  | none => rfl
  | some c =>
    match c with
    | .inl o => rfl
    | .inr (.inr o) => rfl
    | .inr (.inl (k, n, f)) =>
      by_cases h : k = kd <;> simp [ax_f, h]
section RU3
variable {k pc pc' : Nat} {ls : am_L} {st : List Value} {σ : am_H} {Q : Option Value → am_H → Prop} {rt : Option FieldType} {i : Instr} {K : am_K}
theorem rv_iald {j : Int32} {a : Nat} (h : am_cd k pc = some (rt, .iaload, K)) (hp : pc + 1 = pc') : ax k pc ls (.int j :: .ref a :: st) σ Q = ax_f (am_j σ a) (fun q => q.1 = 0 ∧ am_ix j q.2.1 ∧ ax k pc' ls (.int (q.2.2 j.toNatClampNeg) :: st) σ Q) := (ru_iald h hp).trans (am_iv_j _ _ _ _)
theorem rv_iast {j x : Int32} {a : Nat} (h : am_cd k pc = some (rt, .iastore, K)) (hp : pc + 1 = pc') : ax k pc ls (.int x :: .int j :: .ref a :: st) σ Q = ax_f (am_j σ a) (fun q => q.1 = 0 ∧ am_ix j q.2.1 ∧ a < am_top ∧ ax k pc' ls st (am_set σ a (am_ia 0 q.2.1 (upd q.2.2 j.toNatClampNeg x))) Q) := (ru_iast h hp).trans (am_iv_j _ _ _ _)
theorem rv_zast {j x : Int32} {a : Nat} (h : am_cd k pc = some (rt, .bastore, K)) (hp : pc + 1 = pc') : ax k pc ls (.int x :: .int j :: .ref a :: st) σ Q = ax_f (am_j σ a) (fun q => q.1 = 1 ∧ am_ix j q.2.1 ∧ a < am_top ∧ (x = 0 ∨ x = 1) ∧ ax k pc' ls st (am_set σ a (am_ia 1 q.2.1 (upd q.2.2 j.toNatClampNeg x))) Q) := (ru_zast h hp).trans (am_iv_j _ _ _ _)
theorem rv_bald {j : Int32} {a : Nat} (h : am_cd k pc = some (rt, .baload, K)) (hp : pc + 1 = pc') : ax k pc ls (.int j :: .ref a :: st) σ Q = ax_f (am_j σ a) (fun q => (q.1 = 1 ∨ q.1 = 2) ∧ am_ix j q.2.1 ∧ ax k pc' ls (.int (q.2.2 j.toNatClampNeg) :: st) σ Q) := by
  subst hp
  unfold am_j
  cases hg : am_get σ a with
  | none => rw [ax_no h (by simp [am_stp, am_pure, am_loc, am_br, am_rd, am_wr, am_cl, am_rt, hg])]; rfl
  | some c =>
    match c, hg with
    | .inl o, hg => rw [ax_no h (by simp [am_stp, am_pure, am_loc, am_br, am_rd, am_wr, am_cl, am_rt, hg])]; rfl
    | .inr (.inr o), hg => rw [ax_no h (by simp [am_stp, am_pure, am_loc, am_br, am_rd, am_wr, am_cl, am_rt, hg])]; rfl
    | .inr (.inl (kd, n, f)), hg =>
      by_cases ho : kd = 1 ∨ kd = 2
      · by_cases hin : j < 0 ∨ n ≤ j.toNatClampNeg
        · rw [ax_no h (by simp [am_stp, am_pure, am_loc, am_br, am_rd, am_wr, am_cl, am_rt, hg, hin])]
          simp [ax_f, am_ix, hin]
        · rw [ru_rd (st' := .int (f j.toNatClampNeg) :: st) h rfl rfl rfl (by simp [am_rd, hg, hin, ho]) rfl]
          simp [ax_f, am_ix, hin, ho, am_len]
      · rw [ax_no h (by simp [am_stp, am_pure, am_loc, am_br, am_rd, am_wr, am_cl, am_rt, hg, ho])]
        simp [ax_f, ho]
theorem rv_aald {j : Int32} {a : Nat} (h : am_cd k pc = some (rt, .aaload, K)) (hp : pc + 1 = pc') : ax k pc ls (.int j :: .ref a :: st) σ Q = ax_f (am_q σ a) (fun q => am_ix j q.2.1 ∧ ax k pc' ls (va_rf (q.2.2 j.toNatClampNeg) :: st) σ Q) := by
  subst hp
  unfold am_q
  cases hg : am_get σ a with
  | none => rw [ax_no h (by simp [am_stp, am_pure, am_loc, am_br, am_rd, am_wr, am_cl, am_rt, hg])]; rfl
  | some c =>
    match c, hg with
    | .inl o, hg => rw [ax_no h (by simp [am_stp, am_pure, am_loc, am_br, am_rd, am_wr, am_cl, am_rt, hg])]; rfl
    | .inr (.inl o), hg => rw [ax_no h (by simp [am_stp, am_pure, am_loc, am_br, am_rd, am_wr, am_cl, am_rt, hg])]; rfl
    | .inr (.inr (.inl o)), hg => rw [ax_no h (by simp [am_stp, am_pure, am_loc, am_br, am_rd, am_wr, am_cl, am_rt, hg])]; rfl
    | .inr (.inr (.inr (cj, n, f))), hg =>
      by_cases hin : j < 0 ∨ n ≤ j.toNatClampNeg
      · rw [ax_no h (by simp [am_stp, am_pure, am_loc, am_br, am_rd, am_wr, am_cl, am_rt, hg, hin])]
        simp [ax_f, am_ix, hin]
      · rw [ru_rd (st' := va_rf (f j.toNatClampNeg) :: st) h rfl rfl rfl (by simp [am_rd, hg, hin]) rfl]
        simp [ax_f, am_ix, hin, am_len]
theorem ru_iconst {n : Int} {v : Int32} (h : am_cd k pc = some (rt, .iconst n, K)) (hv : Int32.ofInt n = v) (hp : pc + 1 = pc') : ax k pc ls st σ Q = ax k pc' ls (.int v :: st) σ Q := by subst hv; exact ru_pure h rfl hp
theorem ru_bipush {n : Int} {v : Int32} (h : am_cd k pc = some (rt, .bipush n, K)) (hv : (Int8.ofInt n).toInt32 = v) (hp : pc + 2 = pc') : ax k pc ls st σ Q = ax k pc' ls (.int v :: st) σ Q := by subst hv; exact ru_pure h rfl hp
theorem ru_sipush {n : Int} {v : Int32} (h : am_cd k pc = some (rt, .sipush n, K)) (hv : (Int16.ofInt n).toInt32 = v) (hp : pc + 3 = pc') : ax k pc ls st σ Q = ax k pc' ls (.int v :: st) σ Q := by subst hv; exact ru_pure h rfl hp
theorem ru_lconst {n : Fin 2} {v : Int64} (h : am_cd k pc = some (rt, .lconst n, K)) (hv : Int64.ofNat n.val = v) (hp : pc + 1 = pc') : ax k pc ls st σ Q = ax k pc' ls (.long v :: st) σ Q := by subst hv; exact ru_pure h rfl hp
theorem ru_istore {n : Nat} {x : Int32} {ls' : am_L} (h : am_cd k pc = some (rt, .istore n, K)) (hn : n < ls.length) (hs : am_st1 ls n (.int x) = ls') (hp : pc + 2 = pc') : ax k pc ls (.int x :: st) σ Q = ax k pc' ls' st σ Q := ru_loc (q := (ls', st)) h rfl (by simp only [am_loc, am_sti, if_pos hn, hs]) hp
theorem ru_istore_n {n : Fin 4} {x : Int32} {ls' : am_L} (h : am_cd k pc = some (rt, .istore_n n, K)) (hn : n.val < ls.length) (hs : am_st1 ls n.val (.int x) = ls') (hp : pc + 1 = pc') : ax k pc ls (.int x :: st) σ Q = ax k pc' ls' st σ Q := ru_loc (q := (ls', st)) h rfl (by simp only [am_loc, am_sti, if_pos hn, hs]) hp
theorem ru_lstore {n : Nat} {x : Int64} {ls' : am_L} (h : am_cd k pc = some (rt, .lstore n, K)) (hn : n + 1 < ls.length) (hs : am_st2 ls n (.long x) = ls') (hp : pc + 2 = pc') : ax k pc ls (.long x :: st) σ Q = ax k pc' ls' st σ Q := ru_loc (q := (ls', st)) h rfl (by simp only [am_loc, am_stl, if_pos hn, hs]) hp
theorem ru_lstore_n {n : Fin 4} {x : Int64} {ls' : am_L} (h : am_cd k pc = some (rt, .lstore_n n, K)) (hn : n.val + 1 < ls.length) (hs : am_st2 ls n.val (.long x) = ls') (hp : pc + 1 = pc') : ax k pc ls (.long x :: st) σ Q = ax k pc' ls' st σ Q := ru_loc (q := (ls', st)) h rfl (by simp only [am_loc, am_stl, if_pos hn, hs]) hp
theorem ru_astore {n x : Nat} {ls' : am_L} (h : am_cd k pc = some (rt, .astore n, K)) (hn : n < ls.length) (hs : am_st1 ls n (.ref x) = ls') (hp : pc + 2 = pc') : ax k pc ls (.ref x :: st) σ Q = ax k pc' ls' st σ Q := ru_loc (q := (ls', st)) h rfl (by simp only [am_loc, am_sta, if_pos hn, hs]) hp
theorem ru_astore_n {n : Fin 4} {x : Nat} {ls' : am_L} (h : am_cd k pc = some (rt, .astore_n n, K)) (hn : n.val < ls.length) (hs : am_st1 ls n.val (.ref x) = ls') (hp : pc + 1 = pc') : ax k pc ls (.ref x :: st) σ Q = ax k pc' ls' st σ Q := ru_loc (q := (ls', st)) h rfl (by simp only [am_loc, am_sta, if_pos hn, hs]) hp
theorem ru_astoreN {n : Nat} {ls' : am_L} (h : am_cd k pc = some (rt, .astore n, K)) (hn : n < ls.length) (hs : am_st1 ls n .null = ls') (hp : pc + 2 = pc') : ax k pc ls (.null :: st) σ Q = ax k pc' ls' st σ Q := ru_loc (q := (ls', st)) h rfl (by simp only [am_loc, am_sta, if_pos hn, hs]) hp
theorem ru_astore_nN {n : Fin 4} {ls' : am_L} (h : am_cd k pc = some (rt, .astore_n n, K)) (hn : n.val < ls.length) (hs : am_st1 ls n.val .null = ls') (hp : pc + 1 = pc') : ax k pc ls (.null :: st) σ Q = ax k pc' ls' st σ Q := ru_loc (q := (ls', st)) h rfl (by simp only [am_loc, am_sta, if_pos hn, hs]) hp
theorem ru_iinc {n : Nat} {d : Int} {x v : Int32} {ls' : am_L} (h : am_cd k pc = some (rt, .iinc n d, K)) (hl : ls[n]? = some (some (.int x))) (hn : n < ls.length) (hv : Int32.ofInt d = v) (hs : am_st1 ls n (.int (x + v)) = ls') (hp : pc + 3 = pc') : ax k pc ls st σ Q = ax k pc' ls' st σ Q := by
  subst hv
  exact ru_loc (q := (ls', st)) h rfl (by simp only [am_loc, hl, if_pos hn, hs]) hp
theorem ru_tabO {d lo hi : Int} {offs : Array Int} {x : Int32} {t : Nat} (h : am_cd k pc = some (rt, .tableswitch d lo hi offs, K)) (ho : x.toInt < lo ∨ hi < x.toInt) (ht : (pc : Int) + d = (t : Int)) : ax k pc ls (.int x :: st) σ Q = ax k t ls st σ Q := by
  refine ru_br (q := (t, st)) h rfl rfl ?_
  simp only [am_br, if_pos ho, am_to]
  rw [ht, if_pos (Int.natCast_nonneg t), Int.toNat_natCast]
theorem ru_tabI {d lo hi : Int} {offs : Array Int} {x : Int32} {t : Nat} {o : Int} (h : am_cd k pc = some (rt, .tableswitch d lo hi offs, K)) (ho : ¬ (x.toInt < lo ∨ hi < x.toInt)) (hof : offs[(x.toInt - lo).toNat]? = some o) (ht : (pc : Int) + o = (t : Int)) : ax k pc ls (.int x :: st) σ Q = ax k t ls st σ Q := by
  refine ru_br (q := (t, st)) h rfl rfl ?_
  simp only [am_br, if_neg ho, hof, am_to]
  rw [ht, if_pos (Int.natCast_nonneg t), Int.toNat_natCast]
theorem ru_look {d : Int} {ps : Array (Int × Int)} {x : Int32} {t : Nat} (h : am_cd k pc = some (rt, .lookupswitch d ps, K)) (ht : (pc : Int) + Op.lookupswitch.offset ps.toList d x.toInt = (t : Int)) : ax k pc ls (.int x :: st) σ Q = ax k t ls st σ Q := by
  refine ru_br (q := (t, st)) h rfl rfl ?_
  simp only [am_br, am_to]
  rw [ht, if_pos (Int.natCast_nonneg t), Int.toNat_natCast]
theorem ru_iretI {v : Int32} (h : am_cd k pc = some (some .int, .ireturn, K)) : ax k pc ls [.int v] σ Q = Q (some (.int v)) σ := by
  rw [ru_iret h]
  simp [am_nar]
end RU3
def bi (b : Bool) : Int32 := if b = true then 1 else 0
theorem bi_0 (b : Bool) : (bi b = 0) = (b = false) := by cases b <;> simp [bi]
theorem bi_1 (b : Bool) : (bi b = 1) = (b = true) := by cases b <;> simp [bi]
theorem bi_01 (b : Bool) : (bi b = 0 ∨ bi b = 1) = True := by cases b <;> simp [bi]
theorem bi_nar (b : Bool) : am_nar .boolean (bi b) = true := by cases b <;> rfl
theorem am_nar0 : am_nar .boolean 0 = true := rfl
theorem am_nar1 : am_nar .boolean 1 = true := rfl
theorem okv_i (x : Int32) : am_okv 0 (.int x) = true := rfl
theorem okv_l (x : Int64) : am_okv 1 (.long x) = true := rfl
theorem okv_r (x : Nat) : am_okv 3 (.ref x) = true := rfl
theorem okv_n : am_okv 3 .null = true := rfl
theorem okv_z (b : Bool) : am_okv 2 (.int (bi b)) = true := by cases b <;> rfl
theorem okv_z0 : am_okv 2 (.int 0) = true := rfl
theorem okv_z1 : am_okv 2 (.int 1) = true := rfl
theorem c2_n : am_c2 none = false := rfl
theorem c2_i (x : Int32) : am_c2 (some (.int x)) = false := rfl
theorem c2_r (x : Nat) : am_c2 (some (.ref x)) = false := rfl
theorem c2_z : am_c2 (some .null) = false := rfl
theorem cat_le (v : Value) : v.category ≤ 2 := by cases v <;> simp [Value.category]
theorem s8_0 : am_s8 [] = True := by simp [am_s8]
theorem s8_1 (a : Value) : am_s8 [a] = True := by have := cat_le a; simp [am_s8]; omega
theorem s8_2 (a b : Value) : am_s8 [a, b] = True := by have := cat_le a; have := cat_le b; simp [am_s8]; omega
theorem s8_3 (a b c : Value) : am_s8 [a, b, c] = True := by have := cat_le a; have := cat_le b; have := cat_le c; simp [am_s8]; omega
theorem s8_4 (a b c d : Value) : am_s8 [a, b, c, d] = True := by have := cat_le a; have := cat_le b; have := cat_le c; have := cat_le d; simp [am_s8]; omega
