/-! CELLS MADE; THE CLASS, 13: readTape -/
section NW
variable {σ : am_H} {a b c ci k j n kd : Nat} {d e : am_C} {l : List Value} {v : Value}
theorem get_new_ne (h : ¬ b = σ.1) : am_get (am_new σ n d) b = am_get σ b := if_neg h
theorem get_new_eq : am_get (am_new σ n d) σ.1 = some d := if_pos rfl
theorem new_1 : (am_new σ n d).1 = σ.1 + 1 := rfl
theorem new_2 : (am_new σ n d).2.1 = σ.2.1 + n := rfl
theorem fld_new_ne (h : ¬ b = σ.1) : am_fld (am_new σ n d) b ci k = am_fld σ b ci k := by simp only [am_fld, get_new_ne h]
theorem j_new_ne (h : ¬ b = σ.1) : am_j (am_new σ n d) b = am_j σ b := by simp only [am_j, get_new_ne h]
theorem q_new_ne (h : ¬ b = σ.1) : am_q (am_new σ n d) b = am_q σ b := by simp only [am_q, get_new_ne h]
theorem lv_new_ne (h : ¬ b = σ.1) : am_lv (am_new σ n d) b = am_lv σ b := by simp only [am_lv, get_new_ne h]
theorem nv_new_ne (h : ¬ b = σ.1) : am_nv (am_new σ n d) b = am_nv σ b := by simp only [am_nv, get_new_ne h]
theorem is_new_ne (h : ¬ b = σ.1) : am_is (am_new σ n d) b ci = am_is σ b ci := by simp only [am_is, get_new_ne h]
theorem gi_new_ne (h : ¬ b = σ.1) : gi (am_new σ n d) b ci k = gi σ b ci k := by unfold gi; rw [fld_new_ne h]
theorem ga_new_ne (h : ¬ b = σ.1) : ga (am_new σ n d) b = ga σ b := by unfold ga; rw [j_new_ne h]
theorem gL_new_ne (h : ¬ b = σ.1) : gL (am_new σ n d) b = gL σ b := by unfold gL; rw [lv_new_ne h]
theorem gq_new_ne (h : ¬ b = σ.1) : gq (am_new σ n d) b = gq σ b := by unfold gq; rw [q_new_ne h]
theorem fld_new : am_fld (am_new σ n (am_ob c l)) σ.1 c k = l[k]? := by
  unfold am_fld
  rw [get_new_eq]
  simp [am_ob]
theorem set_new : am_set (am_new σ n d) σ.1 e = am_new σ n e := by
  unfold am_set am_new
  refine Prod.ext rfl (Prod.ext rfl ?_)
  funext x
  by_cases hx : x = σ.1 <;> simp [hx]
theorem put_new : am_put (am_new σ n (am_ob c l)) σ.1 k v = am_new σ n (am_ob c (l.set k v)) := by
  unfold am_put
  rw [get_new_eq]
  exact set_new
theorem new_set (h : ¬ a = σ.1) : am_new (am_set σ a e) n d = am_set (am_new σ n d) a e := by
  unfold am_set am_new
  refine Prod.ext rfl (Prod.ext rfl ?_)
  funext x
  by_cases h1 : x = a
  · subst h1
    simp [h]
  · by_cases h2 : x = σ.1
    · subst h2
      simp [h1]
    · simp [h1, h2]
theorem sh_lt : (∀ q ∈ sh_R, q.1 < sh_N) ∧ (∀ q ∈ sh_I, q.1 < sh_N) ∧ (∀ q ∈ sh_J, q.1 < sh_N) ∧ (∀ q ∈ sh_L, q.1 < sh_N) ∧ (∀ q ∈ sh_Q, q.1 < sh_N) := by decide +kernel
theorem SH_new (h : SH σ) : SH (am_new σ n d) := by
  obtain ⟨h1, h2, h3, h4, h5, h6⟩ := h
  obtain ⟨s1, s2, s3, s4, s5⟩ := sh_lt
  have hn : ∀ b, b < sh_N → ¬ b = σ.1 := fun b hb e => by omega
  refine ⟨fun q hq => ?_, fun q hq => ?_, fun q hq => ?_, fun q hq => ?_, fun q hq => ?_, Nat.le_succ_of_le h6⟩
  · rw [fld_new_ne (hn _ (s1 q hq))]; exact h1 q hq
  · rw [fld_new_ne (hn _ (s2 q hq)), gi_new_ne (hn _ (s2 q hq))]; exact h2 q hq
  · rw [j_new_ne (hn _ (s3 q hq)), ga_new_ne (hn _ (s3 q hq))]; exact h3 q hq
  · rw [lv_new_ne (hn _ (s4 q hq)), gL_new_ne (hn _ (s4 q hq))]; exact h4 q hq
  · rw [q_new_ne (hn _ (s5 q hq)), gq_new_ne (hn _ (s5 q hq))]; exact h5 q hq
theorem SH_ob (h : SH σ) (hR : ∀ q ∈ sh_R, q.1 = a → q.2.1 = c ∧ l[q.2.2.1]? = some (.ref q.2.2.2)) (hI : ∀ q ∈ sh_I, q.1 = a → q.2.1 = c ∧ ∃ x, l[q.2.2]? = some (.int x)) (hJ : ∀ q ∈ sh_J, ¬ q.1 = a) (hL : ∀ q ∈ sh_L, ¬ q.1 = a) (hQ : ∀ q ∈ sh_Q, ¬ q.1 = a) : SH (am_set σ a (am_ob c l)) := by
  obtain ⟨h1, h2, h3, h4, h5, h6⟩ := h
  refine ⟨fun q hq => ?_, fun q hq => ?_, fun q hq => ?_, fun q hq => ?_, fun q hq => ?_, h6⟩
  · by_cases e : q.1 = a
    · obtain ⟨e1, e2⟩ := hR q hq e
      rw [e, e1, fld_ob]
      exact e2
    · rw [fld_set_ne e]; exact h1 q hq
  · by_cases e : q.1 = a
    · obtain ⟨e1, x, e2⟩ := hI q hq e
      rw [e, e1]
      refine gi_of (x := x) ?_
      rw [fld_ob]
      exact e2
    · rw [fld_set_ne e, gi_set_ne e]; exact h2 q hq
  · rw [j_set_ne (hJ q hq), ga_set_ne (hJ q hq)]; exact h3 q hq
  · rw [lv_set_ne (hL q hq), gL_set_ne (hL q hq)]; exact h4 q hq
  · rw [q_set_ne (hQ q hq), gq_set_ne (hQ q hq)]; exact h5 q hq
end NW
/-- the reader's own cell -/
def R30 (σ : am_H) : Prop := ∃ (hr fl pl w se ki st be nu : Int32) (tv : Value), am_get σ 30 = some (am_ob 4 [.ref 31, .int hr, .int fl, .int pl, tv, .int w, .int se, .int ki, .int st, .int be, .int nu])
theorem SH_rRd {σ : am_H} (h : SH σ) (T : Nat) (w : Int32) (s : RS) : SH (am_set σ 30 (rRd T w s)) := by
  unfold rRd
  refine SH_ob h ?_ ?_ (by decide) (by decide) (by decide)
  · intro q hq e
    have : ∀ q ∈ sh_R, q.1 = 30 → q = (30, 4, 0, 31) := by decide
    rw [this q hq e]
    exact ⟨rfl, rfl⟩
  · intro q hq e
    have : ∀ q ∈ sh_I, q.1 = 30 → q = (30, 4, 1) ∨ q = (30, 4, 2) ∨ q = (30, 4, 3) ∨ q = (30, 4, 5) ∨ q = (30, 4, 6) ∨ q = (30, 4, 7) ∨ q = (30, 4, 8) ∨ q = (30, 4, 9) ∨ q = (30, 4, 10) := by decide
    rcases this q hq e with r | r | r | r | r | r | r | r | r <;> rw [r] <;> exact ⟨rfl, _, rfl⟩
section RT
variable {σ : am_H} {Q : Option Value → am_H → Prop} {t : Nat} {w : Int32} {f : Nat → Int32}
theorem R_tape_start (hT : σ.1 < am_top) (h30 : ¬ 30 = σ.1) (hr fl pl w0 se ki st be nu : Int32) (tv : Value) : ax k_Reader_readTape 0 [some (.ref 30), some (.int w), none] [] (am_set σ 30 (am_ob 4 [.ref 31, .int hr, .int fl, .int pl, tv, .int w0, .int se, .int ki, .int st, .int be, .int nu])) Q = ax k_Reader_readTape 41 [some (.ref 30), some (.int w), none] [] (am_set (am_new σ 6 (am_ob 8 [.long 1023, .long 31, .int 0, .int 100000, .int 1000, .long 0])) 30 (am_ob 4 [.ref 31, .int 1, .int 0, .int (-1), .ref σ.1, .int w, .int 0, .int ki, .int st, .int 0, .int nu])) Q := by
  have hT' : (σ.1 < 1000000) = True := eq_true hT
  have hT3 : (σ.1 = 30) = False := eq_false fun e => h30 e.symm
  simp only [s_Reader_readTape_0, s_Reader_readTape_1, s_Reader_readTape_2, s_Reader_readTape_5, s_Reader_readTape_6, s_Reader_readTape_7, s_Reader_readTape_10, s_Reader_readTape_11, s_Reader_readTape_12, s_Reader_readTape_15, s_Reader_readTape_16, s_Reader_readTape_19, s_Reader_readTape_20, s_Reader_readTape_23, s_Reader_readTape_26, s_Reader_readTape_27, s_Reader_readTape_28, s_Reader_readTape_31, s_Reader_readTape_32, s_Reader_readTape_33, s_Reader_readTape_36, s_Reader_readTape_37, s_Reader_readTape_38, s_Reader_readTape_42, s_Reader_readTape_45, s_Reader_readTape_46, s_Reader_readTape_48, s_Reader_readTape_49, s_Reader_readTape_52, s_Reader_readTape_53, s_Reader_readTape_56, s_Reader_readTape_59, s_Reader_readTape_60, s_Reader_readTape_63, s_Reader_readTape_64, s_Reader_readTape_67, s_Reader_readTape_68, s_Reader_readTape_71, s_Reader_readTape_74, s_Reader_readTape_77, s_Reader_readTape_78, s_Reader_readTape_81, s_Reader_readTape_84, s_Reader_readTape_85, s_Reader_readTape_88, s_Reader_readTape_91, s_Reader_readTape_92, s_Reader_readTape_92n, s_Terms_init_0, s_Terms_init_1, s_Terms_init_4, s_Terms_init_5, s_Terms_init_8, s_Terms_init_11, s_Terms_init_12, s_Terms_init_15, s_Terms_init_18, s_Terms_init_19, s_Terms_init_20, s_Terms_init_23, s_Terms_init_24, s_Terms_init_26, s_Terms_init_29, s_Terms_init_30, s_Terms_init_33, s_Terms_init_36, s_Terms_init_37, s_Terms_init_38, s_Terms_init_41, ↓reduceIte, Nat.reduceEqDiff, Nat.reduceLT, am_top, ax_f_some, ax_k_some, ax_k_none, s8_0, s8_1, s8_2, s8_3, s8_4, c2p_n, c2p_i, c2p_r, c2p_z, okvp_i, okvp_l, okvp_r, okvp_n, okvp_z, okvp_z0, okvp_z1, bi_narp, am_nar0p, am_nar1p, bi_0, bi_1, true_and, and_true, fld_ob, put_ob, set_1, new_set h30, fld_set_ne, put_set', fld_new, put_new, hT', hT3, not_false_eq_true, List.getElem?_cons_zero, List.getElem?_cons_succ, List.set_cons_zero, List.set_cons_succ]
def aRd0 (σ : am_H) : RS := (0, -1, 0, 0, 0, 0, gi σ 30 4 10, 1023, 31, 0, 100000, 1000, 0)
/-- what the class reads of a tape -/
def aRd (σ : am_H) (t : Nat) (w : Int32) : RS := rdC (aSee t (ga σ 32)) t w 6 (nxC (aSee t (ga σ 32)) t (aRd0 σ))
def aRdS (σ : am_H) (w : Int32) (s : RS) : am_H := am_set (am_new σ 6 (rTm s)) 30 (rRd σ.1 w s)
theorem SH_aRdS (h : SH σ) (s : RS) : SH (aRdS σ w s) := SH_rRd (SH_new h) _ _ _
theorem rSt_new {d : am_C} (s : RS) : rSt (am_new σ 6 d) σ.1 w s = aRdS σ w s := by
  unfold rSt aRdS
  rw [set_new]
theorem R_readTape (h : SH σ) (hR : R30 σ) (hC : CST σ) (ht : gi σ 31 7 1 = nI t) (hle : t ≤ 120) (hT : σ.1 < am_top) : ax k_Reader_readTape 0 [some (.ref 30), some (.int w), none] [] σ Q = Q (some (if (aRd σ t w).fl = 0 then .ref σ.1 else .null)) (aRdS σ w (aRd σ t w)) := by
  obtain ⟨hr, fl, pl, w0, se, ki, st, be, nu, tv, hg⟩ := hR
  have hN : 83 ≤ σ.1 := h.2.2.2.2.2
  have h30 : ¬ 30 = σ.1 := by omega
  have e0 := set_selfg hg
  have st0 := R_tape_start (Q := Q) (w := w) hT h30 hr fl pl w0 se ki st be nu tv
  rw [e0] at st0
  rw [st0]
  obtain ⟨q, rfl⟩ := nI_surj st
  have enu : gi σ 30 4 10 = nu := by
    refine gi_eq ?_
    unfold am_fld
    rw [hg]
    rfl
  have hb : TapeAt (am_new σ 6 (am_ob 8 [])) t (ga σ 32) := by
    have e1 := i_31_1 h
    rw [ht] at e1
    refine ⟨?_, ?_, ?_, hle⟩
    · rw [fld_new_ne (by omega)]; exact r_31_0 h
    · rw [fld_new_ne (by omega)]; exact e1
    · rw [j_new_ne (by omega)]; exact j_32 h
  have hCb : CST (am_new σ 6 (am_ob 8 [])) := by
    refine CST_get (fun a ha => get_new_ne ?_) hC
    have e : am_top = 1000000 := rfl
    omega
  have es : am_set (am_new σ 6 (am_ob 8 [.long 1023, .long 31, .int 0, .int 100000, .int 1000, .long 0])) 30 (am_ob 4 [.ref 31, .int 1, .int 0, .int (-1), .ref σ.1, .int w, .int 0, .int ki, .int (nI q), .int 0, .int nu]) = rSt (am_new σ 6 (am_ob 8 [])) σ.1 w (0, -1, 0, ki, q, 0, nu, 1023, 31, 0, 100000, 1000, 0) := by
    rw [rSt_new]
    rfl
  rw [es]
  have en : nxC (aSee t (ga σ 32)) t (0, -1, 0, ki, q, 0, nu, 1023, 31, 0, 100000, 1000, 0) = nxC (aSee t (ga σ 32)) t (aRd0 σ) := by
    unfold aRd0
    rw [enu]
    rfl
  have hst := fun (Q : Option Value → am_H → Prop) => R_step (Q := Q) (w := w) hb (T := σ.1) (by omega) (by omega) (0, -1, 0, ki, q, 0, nu, 1023, 31, 0, 100000, 1000, 0) (Nat.zero_le t)
  rw [en] at hst
  have a := nxC_le (f := ga σ 32) (t := t) (aRd0 σ) (Nat.zero_le t)
  have hl := R_read_loop (Q := Q) (w := w) hb hCb hT (by omega) (by omega) (by omega) 6 0 _ (by omega) a.1 a.2
  rw [rSt_new, nI_0] at hl
  simp only [s_Reader_readTape_0, s_Reader_readTape_1, s_Reader_readTape_2, s_Reader_readTape_5, s_Reader_readTape_6, s_Reader_readTape_7, s_Reader_readTape_10, s_Reader_readTape_11, s_Reader_readTape_12, s_Reader_readTape_15, s_Reader_readTape_16, s_Reader_readTape_19, s_Reader_readTape_20, s_Reader_readTape_23, s_Reader_readTape_26, s_Reader_readTape_27, s_Reader_readTape_28, s_Reader_readTape_31, s_Reader_readTape_32, s_Reader_readTape_33, s_Reader_readTape_36, s_Reader_readTape_37, s_Reader_readTape_38, s_Reader_readTape_41, s_Reader_readTape_42, s_Reader_readTape_45, s_Reader_readTape_46, s_Reader_readTape_48, s_Reader_readTape_49, s_Reader_readTape_52, s_Reader_readTape_53, s_Reader_readTape_56, s_Reader_readTape_59, s_Reader_readTape_60, s_Reader_readTape_63, s_Reader_readTape_64, s_Reader_readTape_67, s_Reader_readTape_68, s_Reader_readTape_71, s_Reader_readTape_74, s_Reader_readTape_77, s_Reader_readTape_78, s_Reader_readTape_81, s_Reader_readTape_84, s_Reader_readTape_85, s_Reader_readTape_88, s_Reader_readTape_91, s_Reader_readTape_92, s_Reader_readTape_92n, ↓reduceIte, Nat.reduceEqDiff, Nat.reduceLT, am_top, ax_f_some, ax_k_some, ax_k_none, s8_0, s8_1, s8_2, s8_3, s8_4, c2p_n, c2p_i, c2p_r, c2p_z, okvp_i, okvp_l, okvp_r, okvp_n, okvp_z, okvp_z0, okvp_z1, bi_narp, am_nar0p, am_nar1p, bi_0, bi_1, true_and, and_true, r_is, hst]
  rw [rSt_new] at hl ⊢
  exact hl
end RT
