/-! THE CLASS, 10: the reader -/
abbrev RS : Type := Int32 × Int32 × Int32 × Int32 × Nat × Nat × Int32 × Int64 × Int64 × Int32 × Int32 × Int32 × Int64
abbrev RS.fl (s : RS) : Int32 := s.1
abbrev RS.pl (s : RS) : Int32 := s.2.1
abbrev RS.se (s : RS) : Int32 := s.2.2.1
abbrev RS.ki (s : RS) : Int32 := s.2.2.2.1
abbrev RS.st (s : RS) : Nat := s.2.2.2.2.1
abbrev RS.be (s : RS) : Nat := s.2.2.2.2.2.1
abbrev RS.nu (s : RS) : Int32 := s.2.2.2.2.2.2.1
abbrev RS.la (s : RS) : Int64 := s.2.2.2.2.2.2.2.1
abbrev RS.us (s : RS) : Int64 := s.2.2.2.2.2.2.2.2.1
abbrev RS.fr (s : RS) : Int32 := s.2.2.2.2.2.2.2.2.2.1
abbrev RS.to (s : RS) : Int32 := s.2.2.2.2.2.2.2.2.2.2.1
abbrev RS.mo (s : RS) : Int32 := s.2.2.2.2.2.2.2.2.2.2.2.1
abbrev RS.sh (s : RS) : Int64 := s.2.2.2.2.2.2.2.2.2.2.2.2
abbrev RS.s_fl (s : RS) (x : Int32) : RS := (x, s.2.1, s.2.2.1, s.2.2.2.1, s.2.2.2.2.1, s.2.2.2.2.2.1, s.2.2.2.2.2.2.1, s.2.2.2.2.2.2.2.1, s.2.2.2.2.2.2.2.2.1, s.2.2.2.2.2.2.2.2.2.1, s.2.2.2.2.2.2.2.2.2.2.1, s.2.2.2.2.2.2.2.2.2.2.2.1, s.2.2.2.2.2.2.2.2.2.2.2.2)
abbrev RS.s_pl (s : RS) (x : Int32) : RS := (s.1, x, s.2.2.1, s.2.2.2.1, s.2.2.2.2.1, s.2.2.2.2.2.1, s.2.2.2.2.2.2.1, s.2.2.2.2.2.2.2.1, s.2.2.2.2.2.2.2.2.1, s.2.2.2.2.2.2.2.2.2.1, s.2.2.2.2.2.2.2.2.2.2.1, s.2.2.2.2.2.2.2.2.2.2.2.1, s.2.2.2.2.2.2.2.2.2.2.2.2)
abbrev RS.s_se (s : RS) (x : Int32) : RS := (s.1, s.2.1, x, s.2.2.2.1, s.2.2.2.2.1, s.2.2.2.2.2.1, s.2.2.2.2.2.2.1, s.2.2.2.2.2.2.2.1, s.2.2.2.2.2.2.2.2.1, s.2.2.2.2.2.2.2.2.2.1, s.2.2.2.2.2.2.2.2.2.2.1, s.2.2.2.2.2.2.2.2.2.2.2.1, s.2.2.2.2.2.2.2.2.2.2.2.2)
abbrev RS.s_ki (s : RS) (x : Int32) : RS := (s.1, s.2.1, s.2.2.1, x, s.2.2.2.2.1, s.2.2.2.2.2.1, s.2.2.2.2.2.2.1, s.2.2.2.2.2.2.2.1, s.2.2.2.2.2.2.2.2.1, s.2.2.2.2.2.2.2.2.2.1, s.2.2.2.2.2.2.2.2.2.2.1, s.2.2.2.2.2.2.2.2.2.2.2.1, s.2.2.2.2.2.2.2.2.2.2.2.2)
abbrev RS.s_st (s : RS) (x : Nat) : RS := (s.1, s.2.1, s.2.2.1, s.2.2.2.1, x, s.2.2.2.2.2.1, s.2.2.2.2.2.2.1, s.2.2.2.2.2.2.2.1, s.2.2.2.2.2.2.2.2.1, s.2.2.2.2.2.2.2.2.2.1, s.2.2.2.2.2.2.2.2.2.2.1, s.2.2.2.2.2.2.2.2.2.2.2.1, s.2.2.2.2.2.2.2.2.2.2.2.2)
abbrev RS.s_be (s : RS) (x : Nat) : RS := (s.1, s.2.1, s.2.2.1, s.2.2.2.1, s.2.2.2.2.1, x, s.2.2.2.2.2.2.1, s.2.2.2.2.2.2.2.1, s.2.2.2.2.2.2.2.2.1, s.2.2.2.2.2.2.2.2.2.1, s.2.2.2.2.2.2.2.2.2.2.1, s.2.2.2.2.2.2.2.2.2.2.2.1, s.2.2.2.2.2.2.2.2.2.2.2.2)
abbrev RS.s_nu (s : RS) (x : Int32) : RS := (s.1, s.2.1, s.2.2.1, s.2.2.2.1, s.2.2.2.2.1, s.2.2.2.2.2.1, x, s.2.2.2.2.2.2.2.1, s.2.2.2.2.2.2.2.2.1, s.2.2.2.2.2.2.2.2.2.1, s.2.2.2.2.2.2.2.2.2.2.1, s.2.2.2.2.2.2.2.2.2.2.2.1, s.2.2.2.2.2.2.2.2.2.2.2.2)
abbrev RS.s_la (s : RS) (x : Int64) : RS := (s.1, s.2.1, s.2.2.1, s.2.2.2.1, s.2.2.2.2.1, s.2.2.2.2.2.1, s.2.2.2.2.2.2.1, x, s.2.2.2.2.2.2.2.2.1, s.2.2.2.2.2.2.2.2.2.1, s.2.2.2.2.2.2.2.2.2.2.1, s.2.2.2.2.2.2.2.2.2.2.2.1, s.2.2.2.2.2.2.2.2.2.2.2.2)
abbrev RS.s_us (s : RS) (x : Int64) : RS := (s.1, s.2.1, s.2.2.1, s.2.2.2.1, s.2.2.2.2.1, s.2.2.2.2.2.1, s.2.2.2.2.2.2.1, s.2.2.2.2.2.2.2.1, x, s.2.2.2.2.2.2.2.2.2.1, s.2.2.2.2.2.2.2.2.2.2.1, s.2.2.2.2.2.2.2.2.2.2.2.1, s.2.2.2.2.2.2.2.2.2.2.2.2)
abbrev RS.s_fr (s : RS) (x : Int32) : RS := (s.1, s.2.1, s.2.2.1, s.2.2.2.1, s.2.2.2.2.1, s.2.2.2.2.2.1, s.2.2.2.2.2.2.1, s.2.2.2.2.2.2.2.1, s.2.2.2.2.2.2.2.2.1, x, s.2.2.2.2.2.2.2.2.2.2.1, s.2.2.2.2.2.2.2.2.2.2.2.1, s.2.2.2.2.2.2.2.2.2.2.2.2)
abbrev RS.s_to (s : RS) (x : Int32) : RS := (s.1, s.2.1, s.2.2.1, s.2.2.2.1, s.2.2.2.2.1, s.2.2.2.2.2.1, s.2.2.2.2.2.2.1, s.2.2.2.2.2.2.2.1, s.2.2.2.2.2.2.2.2.1, s.2.2.2.2.2.2.2.2.2.1, x, s.2.2.2.2.2.2.2.2.2.2.2.1, s.2.2.2.2.2.2.2.2.2.2.2.2)
abbrev RS.s_mo (s : RS) (x : Int32) : RS := (s.1, s.2.1, s.2.2.1, s.2.2.2.1, s.2.2.2.2.1, s.2.2.2.2.2.1, s.2.2.2.2.2.2.1, s.2.2.2.2.2.2.2.1, s.2.2.2.2.2.2.2.2.1, s.2.2.2.2.2.2.2.2.2.1, s.2.2.2.2.2.2.2.2.2.2.1, x, s.2.2.2.2.2.2.2.2.2.2.2.2)
abbrev RS.s_sh (s : RS) (x : Int64) : RS := (s.1, s.2.1, s.2.2.1, s.2.2.2.1, s.2.2.2.2.1, s.2.2.2.2.2.1, s.2.2.2.2.2.2.1, s.2.2.2.2.2.2.2.1, s.2.2.2.2.2.2.2.2.1, s.2.2.2.2.2.2.2.2.2.1, s.2.2.2.2.2.2.2.2.2.2.1, s.2.2.2.2.2.2.2.2.2.2.2.1, x)
def rTm (s : RS) : am_C := am_ob 8 [.long s.la, .long s.us, .int s.fr, .int s.to, .int s.mo, .long s.sh]
def rRd (T : Nat) (w : Int32) (s : RS) : am_C := am_ob 4 [.ref 31, .int 1, .int s.fl, .int s.pl, .ref T, .int w, .int s.se, .int s.ki, .int (nI s.st), .int (nI s.be), .int s.nu]
def rSt (σ : am_H) (T : Nat) (w : Int32) (s : RS) : am_H := am_set (am_set σ T (rTm s)) 30 (rRd T w s)
section RD
variable {σ : am_H} {a c k T : Nat} {l : List Value} {v : Value} {w x : Int32} {s : RS}
theorem fld_ob : am_fld (am_set σ a (am_ob c l)) a c k = l[k]? := by
  unfold am_fld
  rw [get_set_eq]
  simp [am_ob]
theorem put_ob : am_put (am_set σ a (am_ob c l)) a k v = am_set σ a (am_ob c (l.set k v)) := by
  unfold am_put
  rw [get_set_eq]
  show am_set (am_set σ a _) a _ = _
  rw [set_set]
theorem put_set' {b : Nat} {d : am_C} (h : ¬ a = b) : am_put (am_set σ b d) a k v = am_set (am_put σ a k v) b d := put_set h
theorem rf_0 : am_fld (rSt σ T w s) 30 4 0 = some (.ref 31) := by
  unfold rSt rRd
  rw [fld_ob]
  rfl
theorem rf_1 : am_fld (rSt σ T w s) 30 4 1 = some (.int 1) := by
  unfold rSt rRd
  rw [fld_ob]
  rfl
theorem rf_2 : am_fld (rSt σ T w s) 30 4 2 = some (.int s.fl) := by
  unfold rSt rRd
  rw [fld_ob]
  rfl
theorem rf_3 : am_fld (rSt σ T w s) 30 4 3 = some (.int s.pl) := by
  unfold rSt rRd
  rw [fld_ob]
  rfl
theorem rf_4 : am_fld (rSt σ T w s) 30 4 4 = some (.ref T) := by
  unfold rSt rRd
  rw [fld_ob]
  rfl
theorem rf_5 : am_fld (rSt σ T w s) 30 4 5 = some (.int w) := by
  unfold rSt rRd
  rw [fld_ob]
  rfl
theorem rf_6 : am_fld (rSt σ T w s) 30 4 6 = some (.int s.se) := by
  unfold rSt rRd
  rw [fld_ob]
  rfl
theorem rf_7 : am_fld (rSt σ T w s) 30 4 7 = some (.int s.ki) := by
  unfold rSt rRd
  rw [fld_ob]
  rfl
theorem rf_8 : am_fld (rSt σ T w s) 30 4 8 = some (.int (nI s.st)) := by
  unfold rSt rRd
  rw [fld_ob]
  rfl
theorem rf_9 : am_fld (rSt σ T w s) 30 4 9 = some (.int (nI s.be)) := by
  unfold rSt rRd
  rw [fld_ob]
  rfl
theorem rf_10 : am_fld (rSt σ T w s) 30 4 10 = some (.int s.nu) := by
  unfold rSt rRd
  rw [fld_ob]
  rfl
theorem rp_2 : am_put (rSt σ T w s) 30 2 (.int x) = rSt σ T w (s.s_fl x) := by
  unfold rSt rRd
  rw [put_ob]
  rfl
theorem rp_3 : am_put (rSt σ T w s) 30 3 (.int x) = rSt σ T w (s.s_pl x) := by
  unfold rSt rRd
  rw [put_ob]
  rfl
theorem rp_6 : am_put (rSt σ T w s) 30 6 (.int x) = rSt σ T w (s.s_se x) := by
  unfold rSt rRd
  rw [put_ob]
  rfl
theorem rp_7 : am_put (rSt σ T w s) 30 7 (.int x) = rSt σ T w (s.s_ki x) := by
  unfold rSt rRd
  rw [put_ob]
  rfl
theorem rp_10 : am_put (rSt σ T w s) 30 10 (.int x) = rSt σ T w (s.s_nu x) := by
  unfold rSt rRd
  rw [put_ob]
  rfl
theorem rp_8 {n : Nat} : am_put (rSt σ T w s) 30 8 (.int (nI n)) = rSt σ T w (s.s_st n) := by
  unfold rSt rRd
  rw [put_ob]
  rfl
theorem rp_9 {n : Nat} : am_put (rSt σ T w s) 30 9 (.int (nI n)) = rSt σ T w (s.s_be n) := by
  unfold rSt rRd
  rw [put_ob]
  rfl
theorem tf_0 (h : ¬ T = 30) : am_fld (rSt σ T w s) T 8 0 = some (.long s.la) := by
  unfold rSt rTm
  rw [fld_set_ne h, fld_ob]
  rfl
theorem tp_0 {y : Int64} (h : ¬ T = 30) : am_put (rSt σ T w s) T 0 (.long y) = rSt σ T w (s.s_la y) := by
  unfold rSt rTm
  rw [put_set' h, put_ob]
  rfl
theorem tf_1 (h : ¬ T = 30) : am_fld (rSt σ T w s) T 8 1 = some (.long s.us) := by
  unfold rSt rTm
  rw [fld_set_ne h, fld_ob]
  rfl
theorem tp_1 {y : Int64} (h : ¬ T = 30) : am_put (rSt σ T w s) T 1 (.long y) = rSt σ T w (s.s_us y) := by
  unfold rSt rTm
  rw [put_set' h, put_ob]
  rfl
theorem tf_2 (h : ¬ T = 30) : am_fld (rSt σ T w s) T 8 2 = some (.int s.fr) := by
  unfold rSt rTm
  rw [fld_set_ne h, fld_ob]
  rfl
theorem tp_2 {y : Int32} (h : ¬ T = 30) : am_put (rSt σ T w s) T 2 (.int y) = rSt σ T w (s.s_fr y) := by
  unfold rSt rTm
  rw [put_set' h, put_ob]
  rfl
theorem tf_3 (h : ¬ T = 30) : am_fld (rSt σ T w s) T 8 3 = some (.int s.to) := by
  unfold rSt rTm
  rw [fld_set_ne h, fld_ob]
  rfl
theorem tp_3 {y : Int32} (h : ¬ T = 30) : am_put (rSt σ T w s) T 3 (.int y) = rSt σ T w (s.s_to y) := by
  unfold rSt rTm
  rw [put_set' h, put_ob]
  rfl
theorem tf_4 (h : ¬ T = 30) : am_fld (rSt σ T w s) T 8 4 = some (.int s.mo) := by
  unfold rSt rTm
  rw [fld_set_ne h, fld_ob]
  rfl
theorem tp_4 {y : Int32} (h : ¬ T = 30) : am_put (rSt σ T w s) T 4 (.int y) = rSt σ T w (s.s_mo y) := by
  unfold rSt rTm
  rw [put_set' h, put_ob]
  rfl
theorem tf_5 (h : ¬ T = 30) : am_fld (rSt σ T w s) T 8 5 = some (.long s.sh) := by
  unfold rSt rTm
  rw [fld_set_ne h, fld_ob]
  rfl
theorem tp_5 {y : Int64} (h : ¬ T = 30) : am_put (rSt σ T w s) T 5 (.long y) = rSt σ T w (s.s_sh y) := by
  unfold rSt rTm
  rw [put_set' h, put_ob]
  rfl
theorem r_is : am_is (rSt σ T w s) 30 4 = True := eq_true (is_of_fld rf_0)
theorem t_is (h : ¬ T = 30) : am_is (rSt σ T w s) T 8 = True := eq_true (is_of_fld (tf_2 h))
/-- the tape: t bytes, f -/
def TapeAt (σ : am_H) (t : Nat) (f : Nat → Int32) : Prop := am_fld σ 31 7 0 = some (.ref 32) ∧ am_fld σ 31 7 1 = some (.int (nI t)) ∧ am_j σ 32 = some (0, 120, f) ∧ t ≤ 120
theorem tape_st {t : Nat} {f : Nat → Int32} (h : TapeAt σ t f) (h1 : ¬ T = 31) (h2 : ¬ T = 32) : TapeAt (rSt σ T w s) t f := by
  obtain ⟨a1, a2, a3, a4⟩ := h
  unfold rSt
  refine ⟨?_, ?_, ?_, a4⟩
  · rw [fld_set_ne (by decide), fld_set_ne (fun e => h1 e.symm)]; exact a1
  · rw [fld_set_ne (by decide), fld_set_ne (fun e => h1 e.symm)]; exact a2
  · rw [j_set_ne (by decide), j_set_ne (fun e => h2 e.symm)]; exact a3
def aSee (t : Nat) (f : Nat → Int32) (j : Nat) : Int32 := if j < t then f j else -1
end RD
section RD2
variable {σ : am_H} {Q : Option Value → am_H → Prop} {T t : Nat} {w : Int32} {f : Nat → Int32}
theorem R_byteAt (h : TapeAt σ t f) {j : Nat} (hj : j < 1000) : ax k_Tape_byteAt 0 [some (.ref 31), some (.int (nI j))] [] σ Q = Q (some (.int (aSee t f j))) σ := by
  obtain ⟨a1, a2, a3, a4⟩ := h
  have hp : ¬ nI j < 0 := nI_pos (by omega)
  have na := nv_of_j a3
  unfold aSee
  by_cases c : j < t
  · have hc : nI j < nI t := nI_lt c (by omega)
    have hc2 : nI j < nI 120 := nI_lt (by omega) (by omega)
    have hix := ix_nI (show j < 120 by omega) (by omega)
    have hcl : (nI j).toNatClampNeg = j := nI_clamp (by omega)
    simp only [s_Tape_byteAt_0, s_Tape_byteAt_1, s_Tape_byteAt_4, s_Tape_byteAt_5, s_Tape_byteAt_6, s_Tape_byteAt_9, s_Tape_byteAt_12, s_Tape_byteAt_13, s_Tape_byteAt_14, s_Tape_byteAt_17, s_Tape_byteAt_18, s_Tape_byteAt_21, s_Tape_byteAt_22, s_Tape_byteAt_25, s_Tape_byteAt_26, s_Tape_byteAt_27, s_Tape_byteAt_30, s_Tape_byteAt_31, ↓reduceIte, Nat.reduceEqDiff, Nat.reduceLT, am_top, ax_f_some, ax_k_some, ax_k_none, s8_0, s8_1, s8_2, s8_3, s8_4, c2p_n, c2p_i, c2p_r, c2p_z, okvp_i, okvp_l, okvp_r, okvp_n, okvp_z, okvp_z0, okvp_z1, bi_narp, am_nar0p, am_nar1p, bi_0, bi_1, true_and, and_true, a1, a2, a3, na, hp, hc, hc2, hix, hcl, ofNat_nI, if_pos c]
  · have hc : ¬ nI j < nI t := nI_nlt (by omega) (by omega)
    simp only [s_Tape_byteAt_0, s_Tape_byteAt_1, s_Tape_byteAt_4, s_Tape_byteAt_5, s_Tape_byteAt_6, s_Tape_byteAt_9, s_Tape_byteAt_12, s_Tape_byteAt_13, s_Tape_byteAt_14, s_Tape_byteAt_17, s_Tape_byteAt_18, s_Tape_byteAt_21, s_Tape_byteAt_22, s_Tape_byteAt_25, s_Tape_byteAt_26, s_Tape_byteAt_27, s_Tape_byteAt_30, s_Tape_byteAt_31, ↓reduceIte, Nat.reduceEqDiff, Nat.reduceLT, am_top, ax_f_some, ax_k_some, ax_k_none, s8_0, s8_1, s8_2, s8_3, s8_4, c2p_n, c2p_i, c2p_r, c2p_z, okvp_i, okvp_l, okvp_r, okvp_n, okvp_z, okvp_z0, okvp_z1, bi_narp, am_nar0p, am_nar1p, bi_0, bi_1, true_and, and_true, a1, a2, hp, hc, if_neg c]
theorem R_isLetter (c : Int32) : ax k_Reader_isLetter 0 [some (.int c)] [] σ Q = Q (some (.int (bi (ltr c)))) σ := by
  simp only [s_Reader_isLetter_0, s_Reader_isLetter_1, s_Reader_isLetter_3, s_Reader_isLetter_6, s_Reader_isLetter_7, s_Reader_isLetter_9, s_Reader_isLetter_12, s_Reader_isLetter_13, s_Reader_isLetter_15, s_Reader_isLetter_18, s_Reader_isLetter_19, s_Reader_isLetter_21, s_Reader_isLetter_24, s_Reader_isLetter_25, s_Reader_isLetter_28, s_Reader_isLetter_29, ↓reduceIte, Nat.reduceEqDiff, Nat.reduceLT, am_top, ax_f_some, ax_k_some, ax_k_none, s8_0, s8_1, s8_2, s8_3, s8_4, c2p_n, c2p_i, c2p_r, c2p_z, okvp_i, okvp_l, okvp_r, okvp_n, okvp_z, okvp_z0, okvp_z1, bi_narp, am_nar0p, am_nar1p, bi_0, bi_1, true_and, and_true]
  by_cases h1 : c < 97 <;> by_cases h2 : 122 < c <;> by_cases h3 : c < 65 <;> by_cases h4 : 90 < c <;> simp [ltr, inB, h1, h2, h3, h4, bi]
theorem R_isDigit (c : Int32) : ax k_Reader_isDigit 0 [some (.int c)] [] σ Q = Q (some (.int (bi (dgt c)))) σ := by
  simp only [s_Reader_isDigit_0, s_Reader_isDigit_1, s_Reader_isDigit_3, s_Reader_isDigit_6, s_Reader_isDigit_7, s_Reader_isDigit_9, s_Reader_isDigit_12, s_Reader_isDigit_13, s_Reader_isDigit_16, s_Reader_isDigit_17, ↓reduceIte, Nat.reduceEqDiff, Nat.reduceLT, am_top, ax_f_some, ax_k_some, ax_k_none, s8_0, s8_1, s8_2, s8_3, s8_4, c2p_n, c2p_i, c2p_r, c2p_z, okvp_i, okvp_l, okvp_r, okvp_n, okvp_z, okvp_z0, okvp_z1, bi_narp, am_nar0p, am_nar1p, bi_0, bi_1, true_and, and_true]
  by_cases h1 : c < 48 <;> by_cases h2 : 57 < c <;> simp [dgt, inB, h1, h2, bi]
def lenR (T : Nat → Int32) : Nat → Nat → Nat
  | 0, j => j
  | n + 1, j => if ltr (T j) = true then lenR T n (j + 1) else j
def capN (n c : Int32) : Int32 := if 100001 < n * 10 + c - 48 then 100001 else n * 10 + c - 48
def digC (T : Nat → Int32) : Nat → Int32 → Nat → Int32 × Nat
  | 0, n, j => (n, j)
  | k + 1, n, j => if dgt (T j) = true then digC T k (capN n (T j)) (j + 1) else (n, j)
theorem aSee_120 (ht : t ≤ 120) : aSee t f 120 = -1 := by
  unfold aSee
  rw [if_neg (by omega)]
theorem R_letters (h : TapeAt σ t f) (h1 : ¬ T = 31) (h2 : ¬ T = 32) : ∀ n i s, i + n = t + 1 → RS.be s = i → ax k_Reader_stepOverLetters 0 [some (.ref 30)] [] (rSt σ T w s) Q = Q none (rSt σ T w (s.s_be (lenR (aSee t f) n i))) := by
  intro n
  induction n with
  | zero =>
    intro i s hi hs
    have hX := tape_st (w := w) (s := s) h h1 h2
    have ht := h.2.2.2
    have e0 : aSee t f i = -1 := by unfold aSee; rw [if_neg (by omega)]
    have ob : am_is (rSt σ T w s) 31 7 = True := eq_true (is_of_fld hX.1)
    rw [s_Reader_stepOverLetters_0]
    by_cases c : i < 120
    · have hc : nI i < nI 120 := nI_lt c (by omega)
      simp only [s_Reader_stepOverLetters_1, s_Reader_stepOverLetters_4, s_Reader_stepOverLetters_6, s_Reader_stepOverLetters_9, s_Reader_stepOverLetters_10, s_Reader_stepOverLetters_13, s_Reader_stepOverLetters_14, s_Reader_stepOverLetters_17, s_Reader_stepOverLetters_20, s_Reader_stepOverLetters_23, s_Reader_stepOverLetters_26, s_Reader_stepOverLetters_27, s_Reader_stepOverLetters_28, s_Reader_stepOverLetters_31, s_Reader_stepOverLetters_32, s_Reader_stepOverLetters_33, s_Reader_stepOverLetters_36, s_Reader_stepOverLetters_39, ↓reduceIte, Nat.reduceEqDiff, Nat.reduceLT, am_top, ax_f_some, ax_k_some, ax_k_none, s8_0, s8_1, s8_2, s8_3, s8_4, c2p_n, c2p_i, c2p_r, c2p_z, okvp_i, okvp_l, okvp_r, okvp_n, okvp_z, okvp_z0, okvp_z1, bi_narp, am_nar0p, am_nar1p, bi_0, bi_1, true_and, and_true, rf_0, rf_9, r_is, ob, hs, e120, hc, R_byteAt hX (show i < 1000 by omega), e0, R_isLetter, ltr_m1, lenR]
      subst hs
      rfl
    · have hc : ¬ nI i < nI 120 := nI_nlt (by omega) (by omega)
      simp only [s_Reader_stepOverLetters_1, s_Reader_stepOverLetters_4, s_Reader_stepOverLetters_6, s_Reader_stepOverLetters_9, s_Reader_stepOverLetters_10, s_Reader_stepOverLetters_13, s_Reader_stepOverLetters_14, s_Reader_stepOverLetters_17, s_Reader_stepOverLetters_20, s_Reader_stepOverLetters_23, s_Reader_stepOverLetters_26, s_Reader_stepOverLetters_27, s_Reader_stepOverLetters_28, s_Reader_stepOverLetters_31, s_Reader_stepOverLetters_32, s_Reader_stepOverLetters_33, s_Reader_stepOverLetters_36, s_Reader_stepOverLetters_39, ↓reduceIte, Nat.reduceEqDiff, Nat.reduceLT, am_top, ax_f_some, ax_k_some, ax_k_none, s8_0, s8_1, s8_2, s8_3, s8_4, c2p_n, c2p_i, c2p_r, c2p_z, okvp_i, okvp_l, okvp_r, okvp_n, okvp_z, okvp_z0, okvp_z1, bi_narp, am_nar0p, am_nar1p, bi_0, bi_1, true_and, and_true, rf_0, rf_9, r_is, ob, hs, e120, hc, lenR]
      subst hs
      rfl
  | succ n ih =>
    intro i s hi hs
    have hX := tape_st (w := w) (s := s) h h1 h2
    have ht := h.2.2.2
    have ob : am_is (rSt σ T w s) 31 7 = True := eq_true (is_of_fld hX.1)
    have ih := ih (i + 1) (s.s_be (i + 1)) (by omega) rfl
    rw [s_Reader_stepOverLetters_0]
    by_cases c : i < 120
    · have hc : nI i < nI 120 := nI_lt c (by omega)
      simp only [s_Reader_stepOverLetters_1, s_Reader_stepOverLetters_4, s_Reader_stepOverLetters_6, s_Reader_stepOverLetters_9, s_Reader_stepOverLetters_10, s_Reader_stepOverLetters_13, s_Reader_stepOverLetters_14, s_Reader_stepOverLetters_17, s_Reader_stepOverLetters_20, s_Reader_stepOverLetters_23, s_Reader_stepOverLetters_26, s_Reader_stepOverLetters_27, s_Reader_stepOverLetters_28, s_Reader_stepOverLetters_31, s_Reader_stepOverLetters_32, s_Reader_stepOverLetters_33, s_Reader_stepOverLetters_36, s_Reader_stepOverLetters_39, ↓reduceIte, Nat.reduceEqDiff, Nat.reduceLT, am_top, ax_f_some, ax_k_some, ax_k_none, s8_0, s8_1, s8_2, s8_3, s8_4, c2p_n, c2p_i, c2p_r, c2p_z, okvp_i, okvp_l, okvp_r, okvp_n, okvp_z, okvp_z0, okvp_z1, bi_narp, am_nar0p, am_nar1p, bi_0, bi_1, true_and, and_true, rf_0, rf_9, r_is, ob, hs, e120, hc, R_byteAt hX (show i < 1000 by omega), R_isLetter, nI_1, rp_9, lenR]
      by_cases c1 : ltr (aSee t f i) = true
      · simp only [c1, Bool.true_eq_false, ↓reduceIte]
        exact ih
      · have c1' : ltr (aSee t f i) = false := by simpa using c1
        simp only [c1', Bool.false_eq_true, ↓reduceIte]
        subst hs
        rfl
    · have hc : ¬ nI i < nI 120 := nI_nlt (by omega) (by omega)
      have e0 : aSee t f i = -1 := by unfold aSee; rw [if_neg (by omega)]
      simp only [s_Reader_stepOverLetters_1, s_Reader_stepOverLetters_4, s_Reader_stepOverLetters_6, s_Reader_stepOverLetters_9, s_Reader_stepOverLetters_10, s_Reader_stepOverLetters_13, s_Reader_stepOverLetters_14, s_Reader_stepOverLetters_17, s_Reader_stepOverLetters_20, s_Reader_stepOverLetters_23, s_Reader_stepOverLetters_26, s_Reader_stepOverLetters_27, s_Reader_stepOverLetters_28, s_Reader_stepOverLetters_31, s_Reader_stepOverLetters_32, s_Reader_stepOverLetters_33, s_Reader_stepOverLetters_36, s_Reader_stepOverLetters_39, ↓reduceIte, Nat.reduceEqDiff, Nat.reduceLT, am_top, ax_f_some, ax_k_some, ax_k_none, s8_0, s8_1, s8_2, s8_3, s8_4, c2p_n, c2p_i, c2p_r, c2p_z, okvp_i, okvp_l, okvp_r, okvp_n, okvp_z, okvp_z0, okvp_z1, bi_narp, am_nar0p, am_nar1p, bi_0, bi_1, true_and, and_true, rf_0, rf_9, r_is, ob, hs, e120, hc, lenR, e0, ltr_m1, Bool.false_eq_true]
      subst hs
      rfl
theorem R_digits_loop (h : TapeAt σ t f) (h1 : ¬ T = 31) (h2 : ¬ T = 32) : ∀ n i s, i + n = t + 1 → RS.be s = i → ax k_Reader_stepOverDigits 5 [some (.ref 30)] [] (rSt σ T w s) Q = Q none (rSt σ T w ((s.s_nu (digC (aSee t f) n s.nu i).1).s_be (digC (aSee t f) n s.nu i).2)) := by
  intro n
  induction n with
  | zero =>
    intro i s hi hs
    have hX := tape_st (w := w) (s := s) h h1 h2
    have ht := h.2.2.2
    have e0 : aSee t f i = -1 := by unfold aSee; rw [if_neg (by omega)]
    have ob : am_is (rSt σ T w s) 31 7 = True := eq_true (is_of_fld hX.1)
    rw [s_Reader_stepOverDigits_5]
    by_cases c : i < 120
    · have hc : nI i < nI 120 := nI_lt c (by omega)
      simp only [s_Reader_stepOverDigits_0, s_Reader_stepOverDigits_1, s_Reader_stepOverDigits_2, s_Reader_stepOverDigits_6, s_Reader_stepOverDigits_9, s_Reader_stepOverDigits_11, s_Reader_stepOverDigits_14, s_Reader_stepOverDigits_15, s_Reader_stepOverDigits_18, s_Reader_stepOverDigits_19, s_Reader_stepOverDigits_22, s_Reader_stepOverDigits_25, s_Reader_stepOverDigits_28, s_Reader_stepOverDigits_31, s_Reader_stepOverDigits_32, s_Reader_stepOverDigits_33, s_Reader_stepOverDigits_36, s_Reader_stepOverDigits_38, s_Reader_stepOverDigits_39, s_Reader_stepOverDigits_40, s_Reader_stepOverDigits_43, s_Reader_stepOverDigits_44, s_Reader_stepOverDigits_47, s_Reader_stepOverDigits_50, s_Reader_stepOverDigits_51, s_Reader_stepOverDigits_53, s_Reader_stepOverDigits_54, s_Reader_stepOverDigits_56, s_Reader_stepOverDigits_59, s_Reader_stepOverDigits_62, s_Reader_stepOverDigits_63, s_Reader_stepOverDigits_64, s_Reader_stepOverDigits_67, s_Reader_stepOverDigits_68, s_Reader_stepOverDigits_69, s_Reader_stepOverDigits_72, s_Reader_stepOverDigits_75, ↓reduceIte, Nat.reduceEqDiff, Nat.reduceLT, am_top, ax_f_some, ax_k_some, ax_k_none, s8_0, s8_1, s8_2, s8_3, s8_4, c2p_n, c2p_i, c2p_r, c2p_z, okvp_i, okvp_l, okvp_r, okvp_n, okvp_z, okvp_z0, okvp_z1, bi_narp, am_nar0p, am_nar1p, bi_0, bi_1, true_and, and_true, rf_0, rf_9, r_is, ob, hs, e120, hc, R_byteAt hX (show i < 1000 by omega), e0, R_isDigit, dgt_m1, digC]
      subst hs
      rfl
    · have hc : ¬ nI i < nI 120 := nI_nlt (by omega) (by omega)
      simp only [s_Reader_stepOverDigits_0, s_Reader_stepOverDigits_1, s_Reader_stepOverDigits_2, s_Reader_stepOverDigits_6, s_Reader_stepOverDigits_9, s_Reader_stepOverDigits_11, s_Reader_stepOverDigits_14, s_Reader_stepOverDigits_15, s_Reader_stepOverDigits_18, s_Reader_stepOverDigits_19, s_Reader_stepOverDigits_22, s_Reader_stepOverDigits_25, s_Reader_stepOverDigits_28, s_Reader_stepOverDigits_31, s_Reader_stepOverDigits_32, s_Reader_stepOverDigits_33, s_Reader_stepOverDigits_36, s_Reader_stepOverDigits_38, s_Reader_stepOverDigits_39, s_Reader_stepOverDigits_40, s_Reader_stepOverDigits_43, s_Reader_stepOverDigits_44, s_Reader_stepOverDigits_47, s_Reader_stepOverDigits_50, s_Reader_stepOverDigits_51, s_Reader_stepOverDigits_53, s_Reader_stepOverDigits_54, s_Reader_stepOverDigits_56, s_Reader_stepOverDigits_59, s_Reader_stepOverDigits_62, s_Reader_stepOverDigits_63, s_Reader_stepOverDigits_64, s_Reader_stepOverDigits_67, s_Reader_stepOverDigits_68, s_Reader_stepOverDigits_69, s_Reader_stepOverDigits_72, s_Reader_stepOverDigits_75, ↓reduceIte, Nat.reduceEqDiff, Nat.reduceLT, am_top, ax_f_some, ax_k_some, ax_k_none, s8_0, s8_1, s8_2, s8_3, s8_4, c2p_n, c2p_i, c2p_r, c2p_z, okvp_i, okvp_l, okvp_r, okvp_n, okvp_z, okvp_z0, okvp_z1, bi_narp, am_nar0p, am_nar1p, bi_0, bi_1, true_and, and_true, rf_0, rf_9, r_is, ob, hs, e120, hc, digC]
      subst hs
      rfl
  | succ n ih =>
    intro i s hi hs
    have hX := tape_st (w := w) (s := s) h h1 h2
    have ht := h.2.2.2
    have ob : am_is (rSt σ T w s) 31 7 = True := eq_true (is_of_fld hX.1)
    rw [s_Reader_stepOverDigits_5]
    by_cases c : i < 120
    · have hc : nI i < nI 120 := nI_lt c (by omega)
      by_cases c1 : dgt (aSee t f i) = true
      · have ih := ih (i + 1) ((s.s_nu (capN s.nu (aSee t f i))).s_be (i + 1)) (by omega) rfl
        have ec : (if 100001 < s.nu * 10 + aSee t f i - 48 then 100001 else s.nu * 10 + aSee t f i - 48) = capN s.nu (aSee t f i) := rfl
        simp only [s_Reader_stepOverDigits_0, s_Reader_stepOverDigits_1, s_Reader_stepOverDigits_2, s_Reader_stepOverDigits_6, s_Reader_stepOverDigits_9, s_Reader_stepOverDigits_11, s_Reader_stepOverDigits_14, s_Reader_stepOverDigits_15, s_Reader_stepOverDigits_18, s_Reader_stepOverDigits_19, s_Reader_stepOverDigits_22, s_Reader_stepOverDigits_25, s_Reader_stepOverDigits_28, s_Reader_stepOverDigits_31, s_Reader_stepOverDigits_32, s_Reader_stepOverDigits_33, s_Reader_stepOverDigits_36, s_Reader_stepOverDigits_38, s_Reader_stepOverDigits_39, s_Reader_stepOverDigits_40, s_Reader_stepOverDigits_43, s_Reader_stepOverDigits_44, s_Reader_stepOverDigits_47, s_Reader_stepOverDigits_50, s_Reader_stepOverDigits_51, s_Reader_stepOverDigits_53, s_Reader_stepOverDigits_54, s_Reader_stepOverDigits_56, s_Reader_stepOverDigits_59, s_Reader_stepOverDigits_62, s_Reader_stepOverDigits_63, s_Reader_stepOverDigits_64, s_Reader_stepOverDigits_67, s_Reader_stepOverDigits_68, s_Reader_stepOverDigits_69, s_Reader_stepOverDigits_72, s_Reader_stepOverDigits_75, ↓reduceIte, Nat.reduceEqDiff, Nat.reduceLT, am_top, ax_f_some, ax_k_some, ax_k_none, s8_0, s8_1, s8_2, s8_3, s8_4, c2p_n, c2p_i, c2p_r, c2p_z, okvp_i, okvp_l, okvp_r, okvp_n, okvp_z, okvp_z0, okvp_z1, bi_narp, am_nar0p, am_nar1p, bi_0, bi_1, true_and, and_true, rf_0, rf_9, rf_10, r_is, ob, hs, e120, hc, R_byteAt hX (show i < 1000 by omega), R_isDigit, c1, Bool.true_eq_false, nI_1, rp_9, rp_10, digC, ec]
        subst hs
        exact ih
      · have c1' : dgt (aSee t f i) = false := by simpa using c1
        simp only [s_Reader_stepOverDigits_0, s_Reader_stepOverDigits_1, s_Reader_stepOverDigits_2, s_Reader_stepOverDigits_6, s_Reader_stepOverDigits_9, s_Reader_stepOverDigits_11, s_Reader_stepOverDigits_14, s_Reader_stepOverDigits_15, s_Reader_stepOverDigits_18, s_Reader_stepOverDigits_19, s_Reader_stepOverDigits_22, s_Reader_stepOverDigits_25, s_Reader_stepOverDigits_28, s_Reader_stepOverDigits_31, s_Reader_stepOverDigits_32, s_Reader_stepOverDigits_33, s_Reader_stepOverDigits_36, s_Reader_stepOverDigits_38, s_Reader_stepOverDigits_39, s_Reader_stepOverDigits_40, s_Reader_stepOverDigits_43, s_Reader_stepOverDigits_44, s_Reader_stepOverDigits_47, s_Reader_stepOverDigits_50, s_Reader_stepOverDigits_51, s_Reader_stepOverDigits_53, s_Reader_stepOverDigits_54, s_Reader_stepOverDigits_56, s_Reader_stepOverDigits_59, s_Reader_stepOverDigits_62, s_Reader_stepOverDigits_63, s_Reader_stepOverDigits_64, s_Reader_stepOverDigits_67, s_Reader_stepOverDigits_68, s_Reader_stepOverDigits_69, s_Reader_stepOverDigits_72, s_Reader_stepOverDigits_75, ↓reduceIte, Nat.reduceEqDiff, Nat.reduceLT, am_top, ax_f_some, ax_k_some, ax_k_none, s8_0, s8_1, s8_2, s8_3, s8_4, c2p_n, c2p_i, c2p_r, c2p_z, okvp_i, okvp_l, okvp_r, okvp_n, okvp_z, okvp_z0, okvp_z1, bi_narp, am_nar0p, am_nar1p, bi_0, bi_1, true_and, and_true, rf_0, rf_9, rf_10, r_is, ob, hs, e120, hc, R_byteAt hX (show i < 1000 by omega), R_isDigit, c1', Bool.false_eq_true, digC]
        subst hs
        rfl
    · have hc : ¬ nI i < nI 120 := nI_nlt (by omega) (by omega)
      have e0 : aSee t f i = -1 := by unfold aSee; rw [if_neg (by omega)]
      simp only [s_Reader_stepOverDigits_0, s_Reader_stepOverDigits_1, s_Reader_stepOverDigits_2, s_Reader_stepOverDigits_6, s_Reader_stepOverDigits_9, s_Reader_stepOverDigits_11, s_Reader_stepOverDigits_14, s_Reader_stepOverDigits_15, s_Reader_stepOverDigits_18, s_Reader_stepOverDigits_19, s_Reader_stepOverDigits_22, s_Reader_stepOverDigits_25, s_Reader_stepOverDigits_28, s_Reader_stepOverDigits_31, s_Reader_stepOverDigits_32, s_Reader_stepOverDigits_33, s_Reader_stepOverDigits_36, s_Reader_stepOverDigits_38, s_Reader_stepOverDigits_39, s_Reader_stepOverDigits_40, s_Reader_stepOverDigits_43, s_Reader_stepOverDigits_44, s_Reader_stepOverDigits_47, s_Reader_stepOverDigits_50, s_Reader_stepOverDigits_51, s_Reader_stepOverDigits_53, s_Reader_stepOverDigits_54, s_Reader_stepOverDigits_56, s_Reader_stepOverDigits_59, s_Reader_stepOverDigits_62, s_Reader_stepOverDigits_63, s_Reader_stepOverDigits_64, s_Reader_stepOverDigits_67, s_Reader_stepOverDigits_68, s_Reader_stepOverDigits_69, s_Reader_stepOverDigits_72, s_Reader_stepOverDigits_75, ↓reduceIte, Nat.reduceEqDiff, Nat.reduceLT, am_top, ax_f_some, ax_k_some, ax_k_none, s8_0, s8_1, s8_2, s8_3, s8_4, c2p_n, c2p_i, c2p_r, c2p_z, okvp_i, okvp_l, okvp_r, okvp_n, okvp_z, okvp_z0, okvp_z1, bi_narp, am_nar0p, am_nar1p, bi_0, bi_1, true_and, and_true, rf_0, rf_9, r_is, ob, hs, e120, hc, digC, e0, dgt_m1, Bool.false_eq_true]
      subst hs
      rfl
theorem R_digits (h : TapeAt σ t f) (h1 : ¬ T = 31) (h2 : ¬ T = 32) {i : Nat} {s : RS} (hi : i ≤ t) (hs : RS.be s = i) : ax k_Reader_stepOverDigits 0 [some (.ref 30)] [] (rSt σ T w s) Q = Q none (rSt σ T w ((s.s_nu (digC (aSee t f) (t + 1 - i) 0 i).1).s_be (digC (aSee t f) (t + 1 - i) 0 i).2)) := by
  have hl := R_digits_loop (Q := Q) (w := w) h h1 h2 (t + 1 - i) i (s.s_nu 0) (by omega) hs
  simp only [s_Reader_stepOverDigits_0, s_Reader_stepOverDigits_1, s_Reader_stepOverDigits_2, s_Reader_stepOverDigits_6, s_Reader_stepOverDigits_9, s_Reader_stepOverDigits_11, s_Reader_stepOverDigits_14, s_Reader_stepOverDigits_15, s_Reader_stepOverDigits_18, s_Reader_stepOverDigits_19, s_Reader_stepOverDigits_22, s_Reader_stepOverDigits_25, s_Reader_stepOverDigits_28, s_Reader_stepOverDigits_31, s_Reader_stepOverDigits_32, s_Reader_stepOverDigits_33, s_Reader_stepOverDigits_36, s_Reader_stepOverDigits_38, s_Reader_stepOverDigits_39, s_Reader_stepOverDigits_40, s_Reader_stepOverDigits_43, s_Reader_stepOverDigits_44, s_Reader_stepOverDigits_47, s_Reader_stepOverDigits_50, s_Reader_stepOverDigits_51, s_Reader_stepOverDigits_53, s_Reader_stepOverDigits_54, s_Reader_stepOverDigits_56, s_Reader_stepOverDigits_59, s_Reader_stepOverDigits_62, s_Reader_stepOverDigits_63, s_Reader_stepOverDigits_64, s_Reader_stepOverDigits_67, s_Reader_stepOverDigits_68, s_Reader_stepOverDigits_69, s_Reader_stepOverDigits_72, s_Reader_stepOverDigits_75, ↓reduceIte, Nat.reduceEqDiff, Nat.reduceLT, am_top, ax_f_some, ax_k_some, ax_k_none, s8_0, s8_1, s8_2, s8_3, s8_4, c2p_n, c2p_i, c2p_r, c2p_z, okvp_i, okvp_l, okvp_r, okvp_n, okvp_z, okvp_z0, okvp_z1, bi_narp, am_nar0p, am_nar1p, bi_0, bi_1, true_and, and_true, rf_10, rp_10]
  exact hl
end RD2
