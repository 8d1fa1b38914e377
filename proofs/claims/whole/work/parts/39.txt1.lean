/-! THE REFERENCE, 13: what a text is read into -/
abbrev MS : Type := Nat × Nat × Int32 × Int32 × Int32 × Int32 × Int32 × Int32 × Int32 × Int32 × Int64
abbrev MS.a (s : MS) : Nat := s.1
abbrev MS.p (s : MS) : Nat := s.2.1
abbrev MS.tk (s : MS) : Int32 := s.2.2.1
abbrev MS.nm (s : MS) : Int32 := s.2.2.2.1
abbrev MS.cl (s : MS) : Int32 := s.2.2.2.2.1
abbrev MS.la (s : MS) : Int32 := s.2.2.2.2.2.1
abbrev MS.us (s : MS) : Int32 := s.2.2.2.2.2.2.1
abbrev MS.df (s : MS) : Int32 := s.2.2.2.2.2.2.2.1
abbrev MS.dt (s : MS) : Int32 := s.2.2.2.2.2.2.2.2.1
abbrev MS.mo (s : MS) : Int32 := s.2.2.2.2.2.2.2.2.2.1
abbrev MS.be (s : MS) : Int64 := s.2.2.2.2.2.2.2.2.2.2
abbrev MS.s_a (s : MS) (x : Nat) : MS := (x, s.2.1, s.2.2.1, s.2.2.2.1, s.2.2.2.2.1, s.2.2.2.2.2.1, s.2.2.2.2.2.2.1, s.2.2.2.2.2.2.2.1, s.2.2.2.2.2.2.2.2.1, s.2.2.2.2.2.2.2.2.2.1, s.2.2.2.2.2.2.2.2.2.2)
abbrev MS.s_p (s : MS) (x : Nat) : MS := (s.1, x, s.2.2.1, s.2.2.2.1, s.2.2.2.2.1, s.2.2.2.2.2.1, s.2.2.2.2.2.2.1, s.2.2.2.2.2.2.2.1, s.2.2.2.2.2.2.2.2.1, s.2.2.2.2.2.2.2.2.2.1, s.2.2.2.2.2.2.2.2.2.2)
abbrev MS.s_tk (s : MS) (x : Int32) : MS := (s.1, s.2.1, x, s.2.2.2.1, s.2.2.2.2.1, s.2.2.2.2.2.1, s.2.2.2.2.2.2.1, s.2.2.2.2.2.2.2.1, s.2.2.2.2.2.2.2.2.1, s.2.2.2.2.2.2.2.2.2.1, s.2.2.2.2.2.2.2.2.2.2)
abbrev MS.s_nm (s : MS) (x : Int32) : MS := (s.1, s.2.1, s.2.2.1, x, s.2.2.2.2.1, s.2.2.2.2.2.1, s.2.2.2.2.2.2.1, s.2.2.2.2.2.2.2.1, s.2.2.2.2.2.2.2.2.1, s.2.2.2.2.2.2.2.2.2.1, s.2.2.2.2.2.2.2.2.2.2)
abbrev MS.s_cl (s : MS) (x : Int32) : MS := (s.1, s.2.1, s.2.2.1, s.2.2.2.1, x, s.2.2.2.2.2.1, s.2.2.2.2.2.2.1, s.2.2.2.2.2.2.2.1, s.2.2.2.2.2.2.2.2.1, s.2.2.2.2.2.2.2.2.2.1, s.2.2.2.2.2.2.2.2.2.2)
abbrev MS.s_la (s : MS) (x : Int32) : MS := (s.1, s.2.1, s.2.2.1, s.2.2.2.1, s.2.2.2.2.1, x, s.2.2.2.2.2.2.1, s.2.2.2.2.2.2.2.1, s.2.2.2.2.2.2.2.2.1, s.2.2.2.2.2.2.2.2.2.1, s.2.2.2.2.2.2.2.2.2.2)
abbrev MS.s_us (s : MS) (x : Int32) : MS := (s.1, s.2.1, s.2.2.1, s.2.2.2.1, s.2.2.2.2.1, s.2.2.2.2.2.1, x, s.2.2.2.2.2.2.2.1, s.2.2.2.2.2.2.2.2.1, s.2.2.2.2.2.2.2.2.2.1, s.2.2.2.2.2.2.2.2.2.2)
abbrev MS.s_df (s : MS) (x : Int32) : MS := (s.1, s.2.1, s.2.2.1, s.2.2.2.1, s.2.2.2.2.1, s.2.2.2.2.2.1, s.2.2.2.2.2.2.1, x, s.2.2.2.2.2.2.2.2.1, s.2.2.2.2.2.2.2.2.2.1, s.2.2.2.2.2.2.2.2.2.2)
abbrev MS.s_dt (s : MS) (x : Int32) : MS := (s.1, s.2.1, s.2.2.1, s.2.2.2.1, s.2.2.2.2.1, s.2.2.2.2.2.1, s.2.2.2.2.2.2.1, s.2.2.2.2.2.2.2.1, x, s.2.2.2.2.2.2.2.2.2.1, s.2.2.2.2.2.2.2.2.2.2)
abbrev MS.s_mo (s : MS) (x : Int32) : MS := (s.1, s.2.1, s.2.2.1, s.2.2.2.1, s.2.2.2.2.1, s.2.2.2.2.2.1, s.2.2.2.2.2.2.1, s.2.2.2.2.2.2.2.1, s.2.2.2.2.2.2.2.2.1, x, s.2.2.2.2.2.2.2.2.2.2)
abbrev MS.s_be (s : MS) (x : Int64) : MS := (s.1, s.2.1, s.2.2.1, s.2.2.2.1, s.2.2.2.2.1, s.2.2.2.2.2.1, s.2.2.2.2.2.2.1, s.2.2.2.2.2.2.2.1, s.2.2.2.2.2.2.2.2.1, s.2.2.2.2.2.2.2.2.2.1, x)
def mScr (σ : am_H) (s : MS) : am_H :=
  am_set (am_set (am_set (am_set (am_set (am_set (am_set σ 62 (am_ia 0 121 (upd (ga σ 62) 120 s.cl))) 63 (am_ia 0 121 (upd (ga σ 63) 120 s.la))) 64 (am_ia 0 121 (upd (ga σ 64) 120 s.us))) 65 (am_ia 0 121 (upd (ga σ 65) 120 s.df))) 66 (am_ia 0 121 (upd (ga σ 66) 120 s.dt))) 67 (am_ia 0 121 (upd (ga σ 67) 120 s.mo))) 68 (am_la 121 (vp_updL (gL σ 68) 120 s.be))
def mSt (σ : am_H) (s : MS) : am_H := mTok (mScr σ s) (nI s.a) (nI s.p) s.tk s.nm
theorem set_comm {σ : am_H} {a b : Nat} {c d : am_C} (h : ¬ b = a) : am_set (am_set σ a c) b d = am_set (am_set σ b d) a c := by
  unfold am_set
  refine Prod.ext rfl (Prod.ext rfl ?_)
  funext x
  by_cases h1 : x = a
  · subst h1
    simp [Ne.symm h]
  · by_cases h2 : x = b
    · subst h2
      simp [h]
    · simp [h1, h2]
theorem upd_upd (f : Nat → Int32) (n : Nat) (x y : Int32) : upd (upd f n x) n y = upd f n y := by
  funext j
  unfold upd
  by_cases h : j = n <;> simp [h]
theorem updL_updL (f : Nat → Int64) (n : Nat) (x y : Int64) : vp_updL (vp_updL f n x) n y = vp_updL f n y := by
  funext j
  unfold vp_updL
  by_cases h : j = n <;> simp [h]
theorem updL_same (f : Nat → Int64) (n : Nat) (x : Int64) : vp_updL f n x n = x := by simp [vp_updL]
theorem set_tok {σ : am_H} {b : Nat} {c : am_C} {x y z u : Int32} (h : ¬ b = 40) : am_set (mTok σ x y z u) b c = mTok (am_set σ b c) x y z u := by
  have h : ¬ 40 = b := fun e => h e.symm
  unfold mTok
  rw [put_set h, put_set h, put_set h, put_set h]
section T1
variable {σ : am_H} {Q : Option Value → am_H → Prop}
theorem SH_Scr (h : SH σ) (s : MS) : SH (mScr σ s) := by
  unfold mScr
  refine SH_set_l ?_ (by decide) (by decide) (by decide) (by decide) (by decide)
  refine SH_set_j ?_ (by decide) (by decide) (by decide) (by decide) (by decide)
  refine SH_set_j ?_ (by decide) (by decide) (by decide) (by decide) (by decide)
  refine SH_set_j ?_ (by decide) (by decide) (by decide) (by decide) (by decide)
  refine SH_set_j ?_ (by decide) (by decide) (by decide) (by decide) (by decide)
  refine SH_set_j ?_ (by decide) (by decide) (by decide) (by decide) (by decide)
  exact SH_set_j h (by decide) (by decide) (by decide) (by decide) (by decide)
theorem SH_St (h : SH σ) (s : MS) : SH (mSt σ s) := SH_Tok (SH_Scr h s) _ _ _ _
theorem scr_gi (s : MS) (b ci i : Nat) (h : b < 62) : gi (mScr σ s) b ci i = gi σ b ci i := by
  unfold mScr
  rw [gi_set_ne (by omega), gi_set_ne (by omega), gi_set_ne (by omega), gi_set_ne (by omega), gi_set_ne (by omega), gi_set_ne (by omega), gi_set_ne (by omega)]
theorem scr_ga (s : MS) (b : Nat) (h : b < 62 ∨ 68 < b) : ga (mScr σ s) b = ga σ b := by
  unfold mScr
  rw [ga_set_ne (by omega), ga_set_ne (by omega), ga_set_ne (by omega), ga_set_ne (by omega), ga_set_ne (by omega), ga_set_ne (by omega), ga_set_ne (by omega)]
theorem st_gi (s : MS) {i : Nat} (h0 : ¬ i = 40) (h1 : ¬ i = 41) (h2 : ¬ i = 42) (h3 : ¬ i = 43) : gi (mSt σ s) 40 11 i = gi σ 40 11 i := by
  unfold mSt
  rw [tok_gi _ _ _ _ h0 h1 h2 h3, scr_gi _ _ _ _ (by decide)]
theorem st_tk (h : SH σ) (s : MS) : gi (mSt σ s) 40 11 42 = s.tk := tok_g42 (SH_Scr h s) _ _ _ _
theorem st_nm (h : SH σ) (s : MS) : gi (mSt σ s) 40 11 43 = s.nm := tok_g43 (SH_Scr h s) _ _ _ _
theorem st_p (h : SH σ) (s : MS) : gi (mSt σ s) 40 11 41 = nI s.p := tok_g41 (SH_Scr h s) _ _ _ _
theorem st_cl (s : MS) : ga (mSt σ s) 62 = upd (ga σ 62) 120 s.cl := by
  unfold mSt mScr
  rw [tok_ga, ga_set_ne (by decide), ga_set_ne (by decide), ga_set_ne (by decide), ga_set_ne (by decide), ga_set_ne (by decide), ga_set_ne (by decide), ga_set_eq]
theorem st_la (s : MS) : ga (mSt σ s) 63 = upd (ga σ 63) 120 s.la := by
  unfold mSt mScr
  rw [tok_ga, ga_set_ne (by decide), ga_set_ne (by decide), ga_set_ne (by decide), ga_set_ne (by decide), ga_set_ne (by decide), ga_set_eq]
theorem st_us (s : MS) : ga (mSt σ s) 64 = upd (ga σ 64) 120 s.us := by
  unfold mSt mScr
  rw [tok_ga, ga_set_ne (by decide), ga_set_ne (by decide), ga_set_ne (by decide), ga_set_ne (by decide), ga_set_eq]
theorem st_df (s : MS) : ga (mSt σ s) 65 = upd (ga σ 65) 120 s.df := by
  unfold mSt mScr
  rw [tok_ga, ga_set_ne (by decide), ga_set_ne (by decide), ga_set_ne (by decide), ga_set_eq]
theorem st_dt (s : MS) : ga (mSt σ s) 66 = upd (ga σ 66) 120 s.dt := by
  unfold mSt mScr
  rw [tok_ga, ga_set_ne (by decide), ga_set_ne (by decide), ga_set_eq]
theorem st_mo (s : MS) : ga (mSt σ s) 67 = upd (ga σ 67) 120 s.mo := by
  unfold mSt mScr
  rw [tok_ga, ga_set_ne (by decide), ga_set_eq]
theorem st_be (s : MS) : gL (mSt σ s) 68 = vp_updL (gL σ 68) 120 s.be := by
  unfold mSt mScr mTok
  rw [gL_put, gL_put, gL_put, gL_put, gL_set_eq]
theorem us120 (f : Nat → Int32) (x : Int32) : upd f 120 x 120 = x := pk_us
theorem st_set_cl (s : MS) (x : Int32) : am_set (mSt σ s) 62 (am_ia 0 121 (upd (ga σ 62) 120 x)) = mSt σ (s.s_cl x) := by
  unfold mSt
  rw [set_tok (by decide)]
  unfold mScr
  rw [set_comm (b := 62) (a := 68) (by decide), set_comm (b := 62) (a := 67) (by decide), set_comm (b := 62) (a := 66) (by decide), set_comm (b := 62) (a := 65) (by decide), set_comm (b := 62) (a := 64) (by decide), set_comm (b := 62) (a := 63) (by decide), set_set]
theorem st_set_la (s : MS) (x : Int32) : am_set (mSt σ s) 63 (am_ia 0 121 (upd (ga σ 63) 120 x)) = mSt σ (s.s_la x) := by
  unfold mSt
  rw [set_tok (by decide)]
  unfold mScr
  rw [set_comm (b := 63) (a := 68) (by decide), set_comm (b := 63) (a := 67) (by decide), set_comm (b := 63) (a := 66) (by decide), set_comm (b := 63) (a := 65) (by decide), set_comm (b := 63) (a := 64) (by decide), set_set]
theorem st_set_us (s : MS) (x : Int32) : am_set (mSt σ s) 64 (am_ia 0 121 (upd (ga σ 64) 120 x)) = mSt σ (s.s_us x) := by
  unfold mSt
  rw [set_tok (by decide)]
  unfold mScr
  rw [set_comm (b := 64) (a := 68) (by decide), set_comm (b := 64) (a := 67) (by decide), set_comm (b := 64) (a := 66) (by decide), set_comm (b := 64) (a := 65) (by decide), set_set]
theorem st_set_df (s : MS) (x : Int32) : am_set (mSt σ s) 65 (am_ia 0 121 (upd (ga σ 65) 120 x)) = mSt σ (s.s_df x) := by
  unfold mSt
  rw [set_tok (by decide)]
  unfold mScr
  rw [set_comm (b := 65) (a := 68) (by decide), set_comm (b := 65) (a := 67) (by decide), set_comm (b := 65) (a := 66) (by decide), set_set]
theorem st_set_dt (s : MS) (x : Int32) : am_set (mSt σ s) 66 (am_ia 0 121 (upd (ga σ 66) 120 x)) = mSt σ (s.s_dt x) := by
  unfold mSt
  rw [set_tok (by decide)]
  unfold mScr
  rw [set_comm (b := 66) (a := 68) (by decide), set_comm (b := 66) (a := 67) (by decide), set_set]
theorem st_set_mo (s : MS) (x : Int32) : am_set (mSt σ s) 67 (am_ia 0 121 (upd (ga σ 67) 120 x)) = mSt σ (s.s_mo x) := by
  unfold mSt
  rw [set_tok (by decide)]
  unfold mScr
  rw [set_comm (b := 67) (a := 68) (by decide), set_set]
theorem st_set_be (s : MS) (x : Int64) : am_set (mSt σ s) 68 (am_la 121 (vp_updL (gL σ 68) 120 x)) = mSt σ (s.s_be x) := by
  unfold mSt
  rw [set_tok (by decide)]
  unfold mScr
  rw [set_set]
/-- the next token -/
def nx (T : Nat → Int32) (t : Nat) (s : MS) : MS := ((nxt T t s.a s.nm).1, (nxt T t s.a s.nm).2.1, (nxt T t s.a s.nm).2.2.1, (nxt T t s.a s.nm).2.2.2, s.cl, s.la, s.us, s.df, s.dt, s.mo, s.be)
theorem M_nx (h : SH σ) {t : Nat} (ht : gi σ 40 11 29 = nI t) (hle : t ≤ 120) (s : MS) (hs : s.a ≤ t) : ax k_M_nextToken 0 [some (.ref 40), none, none] [] (mSt σ s) Q = Q none (mSt σ (nx (mSee σ t) t s)) := by
  have e : mSee (mScr σ s) t = mSee σ t := by
    funext j
    unfold mSee
    rw [scr_ga _ _ (by decide)]
  have ht2 : gi (mScr σ s) 40 11 29 = nI t := by rw [scr_gi _ _ _ _ (by decide)]; exact ht
  have hh := M_nextToken (Q := Q) (SH_Scr h s) ht2 hle hs (nI s.p) s.tk s.nm
  rw [e] at hh
  exact hh
theorem digR_gt (T : Nat → Int32) : ∀ f n j, j ≤ (digR T f n j).2 := by
  intro f
  induction f with
  | zero => intro n j; exact Nat.le_refl _
  | succ f ih =>
    intro n j
    simp only [digR]
    split
    · exact Nat.le_trans (Nat.le_succ j) (ih _ _)
    · exact Nat.le_refl _
theorem letR_gt (T : Nat → Int32) (y : Int32) : ∀ f n j, j ≤ (letR T y f n j).2 := by
  intro f
  induction f with
  | zero => intro n j; exact Nat.le_refl _
  | succ f ih =>
    intro n j
    simp only [letR]
    split
    · exact Nat.le_trans (Nat.le_succ j) (ih _ _)
    · exact Nat.le_refl _
theorem see_lt {t j : Nat} (h : ¬ mSee σ t j < 0) : j < t := by
  rcases Nat.lt_or_ge j t with h1 | h1
  · exact h1
  · unfold mSee at h
    rw [if_neg (by omega)] at h
    exact absurd (by decide) h
theorem dgt_pos {c : Int32} (h : dgt c = true) : ¬ c < 0 := by
  intro z
  simp only [dgt, inB, Bool.and_eq_true, Bool.not_eq_true', decide_eq_false_iff_not] at h
  exact h.1 (Int32.lt_trans z (by decide))
theorem ltr_pos {c : Int32} (h : ltr c = true) : ¬ c < 0 := by
  intro z
  simp only [ltr, inB, Bool.or_eq_true, Bool.and_eq_true, Bool.not_eq_true', decide_eq_false_iff_not] at h
  rcases h with h | h
  · exact h.1 (Int32.lt_trans z (by decide))
  · exact h.1 (Int32.lt_trans z (by decide))
theorem digR_le {t : Nat} : ∀ f n j, j ≤ t → (digR (mSee σ t) f n j).2 ≤ t := by
  intro f
  induction f with
  | zero => intro n j h; exact h
  | succ f ih =>
    intro n j h
    simp only [digR]
    split
    · rename_i c
      exact ih _ _ (see_lt (dgt_pos c))
    · exact h
theorem letR_le {t : Nat} (y : Int32) : ∀ f n j, j ≤ t → (letR (mSee σ t) y f n j).2 ≤ t := by
  intro f
  induction f with
  | zero => intro n j h; exact h
  | succ f ih =>
    intro n j h
    simp only [letR]
    split
    · rename_i c
      exact ih _ _ (see_lt (ltr_pos c))
    · exact h
/-- a token that is one goes on; the place stays on the tape -/
theorem nxt_adv {t i : Nat} (u : Int32) (hi : i ≤ t) : (nxt (mSee σ t) t i u).1 ≤ t ∧ i ≤ (nxt (mSee σ t) t i u).2.1 ∧ (nxt (mSee σ t) t i u).2.1 ≤ (nxt (mSee σ t) t i u).1 ∧ (¬ (nxt (mSee σ t) t i u).2.2.1 = 0 → (nxt (mSee σ t) t i u).2.1 < (nxt (mSee σ t) t i u).1) := by
  have hsk := skipR_le (σ := σ) (t + 1 - i) i hi
  unfold nxt
  generalize skipR (mSee σ t) (t + 1 - i) i = s at hsk
  dsimp only
  split
  · exact ⟨hsk.1, hsk.2, Nat.le_refl _, fun z => absurd rfl z⟩
  · rename_i c0
    have hlt := see_lt c0
    split
    · rename_i c1
      have e1 : (digR (mSee σ t) (t + 1 - s) 0 s).2 ≤ t := digR_le _ _ _ hsk.1
      have e2 : s + 1 ≤ (digR (mSee σ t) (t + 1 - s) 0 s).2 := by
        obtain ⟨f, hf⟩ : ∃ f, t + 1 - s = f + 1 := ⟨t - s, by omega⟩
        rw [hf]
        simp only [digR, if_pos c1]
        exact digR_gt _ _ _ _
      exact ⟨e1, hsk.2, by dsimp only; omega, fun _ => by dsimp only; omega⟩
    · split
      · rename_i c1 c2
        have e1 : (letR (mSee σ t) (nI s) (t + 1 - s) 0 s).2 ≤ t := letR_le _ _ _ _ hsk.1
        have e2 : s + 1 ≤ (letR (mSee σ t) (nI s) (t + 1 - s) 0 s).2 := by
          obtain ⟨f, hf⟩ : ∃ f, t + 1 - s = f + 1 := ⟨t - s, by omega⟩
          rw [hf]
          simp only [letR, if_pos c2]
          exact letR_gt _ _ _ _ _
        exact ⟨e1, hsk.2, by dsimp only; omega, fun _ => by dsimp only; omega⟩
      · exact ⟨by dsimp only; omega, hsk.2, by dsimp only; omega, fun _ => by dsimp only; omega⟩
end T1
