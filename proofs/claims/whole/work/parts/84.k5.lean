/-! THE CALLS ON BOTH SIDES, 5: texts -/
section K5
variable {L : Nat} {xs : Nat → Int32} {σ τ : am_H}
theorem HI_CST (H : HI σ L xs) : CST σ := by
  have g : ∀ k, am_get σ (am_top + k) = am_x L xs k := by
    intro k
    have h := H (am_top + k) (Nat.le_add_right _ _)
    rw [Nat.add_sub_cancel_left] at h
    exact h
  have j : ∀ {a n : Nat} {f : Nat → Int32}, am_get σ a = some (am_ia 2 n f) → am_j σ a = some (2, n, f) := by
    intro a n f h
    unfold am_j
    rw [h]
  have c4 : ∀ i : Fin 5, ∀ k : Fin 4, ((gS i.1 k.1 &&& 255).toUInt32 % 65536).toInt32 = gS i.1 k.1 ∧ am_nar .char (gS i.1 k.1) = true := by decide +kernel
  exact ⟨⟨fld_get (g 1), fld_get (g 1), j (g 11), by decide, fun k hk => c4 0 ⟨k, by omega⟩⟩, ⟨fld_get (g 2), fld_get (g 2), j (g 12), by decide, fun k hk => c4 1 ⟨k, by omega⟩⟩, ⟨fld_get (g 3), fld_get (g 3), j (g 13), by decide, fun k hk => c4 2 ⟨k, by omega⟩⟩, ⟨fld_get (g 4), fld_get (g 4), j (g 14), by decide, fun k hk => c4 3 ⟨k, by omega⟩⟩, ⟨fld_get (g 5), fld_get (g 5), j (g 15), by decide, fun k hk => c4 4 ⟨k, by omega⟩⟩⟩
abbrev WT : List Nat := [30, 34, 35, 61, 62, 63, 64, 65, 66, 67, 68]
abbrev VT : List (Nat × Nat) := [(31, 1), (40, 29), (40, 38), (40, 39), (40, 40), (40, 41), (40, 42), (40, 43)]
theorem FM_Txt0 {ρ : am_H} (F : FM WT VT [] ρ σ) (r : Int32 × MS) : FM WT VT [] ρ (mTxt0 σ r) := by
  unfold mTxt0 mSt mTok mScr
  exact FM_p 11 (FM_p 11 (FM_p 11 (FM_p 11 (FM_p 11 (FM_p 11 (FM_p 11 (FM_l (FM_j (FM_j (FM_j (FM_j (FM_j (FM_j F (by decide)) (by decide)) (by decide)) (by decide)) (by decide)) (by decide)) (by decide)) (by decide)) (by decide)) (by decide)) (by decide)) (by decide)) (by decide)) (by decide)
theorem FM_Txt1 {ρ : am_H} (F : FM WT VT [] ρ σ) (j i : Nat) (v : Int32) : FM WT VT [] ρ (mTxt1 σ j i v) := by
  unfold mTxt1
  exact FM_j (FM_l (FM_j (FM_j (FM_j (FM_j (FM_j (FM_j F (by decide)) (by decide)) (by decide)) (by decide)) (by decide)) (by decide)) (by decide)) (by decide)
theorem FM_TxtS (hS : SH σ) (hT : σ.1 < am_top) (w : Int32) (s : RS) : FM WT VT [] σ (aTxtS σ w s) := FM_p 7 (FM_30 (FM_n (FM_refl hS) hT) (by decide)) (by decide)
theorem txt0_ga (r : Int32 × MS) : ga (mTxt0 σ r) 62 = upd (ga σ 62) 120 r.2.cl ∧ ga (mTxt0 σ r) 63 = upd (ga σ 63) 120 r.2.la ∧ ga (mTxt0 σ r) 64 = upd (ga σ 64) 120 r.2.us ∧ ga (mTxt0 σ r) 65 = upd (ga σ 65) 120 r.2.df ∧ ga (mTxt0 σ r) 66 = upd (ga σ 66) 120 r.2.dt ∧ ga (mTxt0 σ r) 67 = upd (ga σ 67) 120 r.2.mo ∧ gL (mTxt0 σ r) 68 = vp_updL (gL σ 68) 120 r.2.be := by
  unfold mTxt0
  simp only [ga_put, gL_put, st_cl, st_la, st_us, st_df, st_dt, st_mo, st_be, and_self]
theorem txt0_gi (h : SH σ) (r : Int32 × MS) : gi (mTxt0 σ r) 40 11 38 = r.1 ∧ gi (mTxt0 σ r) 40 11 39 = (if r.1 = 0 then -1 else nI r.2.p) ∧ gi (mTxt0 σ r) 40 11 29 = 0 := by
  have s0 := SH_St h r.2
  have s1 : SH (am_put (mSt σ r.2) 40 38 (.int r.1)) := SH_put_i (ci := 11) s0 (by decide) (by decide)
  have s2 : SH (am_put (am_put (mSt σ r.2) 40 38 (.int r.1)) 40 39 (.int (if r.1 = 0 then -1 else nI r.2.p))) := SH_put_i (ci := 11) s1 (by decide) (by decide)
  unfold mTxt0
  refine ⟨?_, ?_, ?_⟩
  · rw [gi_put_k (by decide), gi_put_k (by decide)]
    exact gi_put_eq (i_40_38 s0)
  · rw [gi_put_k (by decide)]
    exact gi_put_eq (i_40_39 s1)
  · exact gi_put_eq (i_40_29 s2)
theorem txt1_ga (j i : Nat) (v : Int32) : ga (mTxt1 σ j i v) 62 = upd (ga σ 62) j (ga σ 62 120) ∧ ga (mTxt1 σ j i v) 63 = upd (ga σ 63) j (ga σ 63 120) ∧ ga (mTxt1 σ j i v) 64 = upd (ga σ 64) j (ga σ 64 120) ∧ ga (mTxt1 σ j i v) 65 = upd (ga σ 65) j (ga σ 65 120) ∧ ga (mTxt1 σ j i v) 66 = upd (ga σ 66) j (ga σ 66 120) ∧ ga (mTxt1 σ j i v) 67 = upd (ga σ 67) j (ga σ 67 120) ∧ gL (mTxt1 σ j i v) 68 = vp_updL (gL σ 68) j (gL σ 68 120) ∧ ga (mTxt1 σ j i v) 61 = upd (ga σ 61) i v := by
  unfold mTxt1
  simp only [gi_put_ne, gi_put_k, gi_put_o, gi_set_ne, ga_put, ga_set_ne, ga_set_eq, gL_put, gL_set_ne, gL_set_eq, gq_put, gq_set_ne, gq_set_eq, fld_set_ne, fld_put_ne, fld_put_k, fld_put_same, Option.map_some, Option.elim_some, Nat.reduceEqDiff, not_false_eq_true, and_self]
/-- the rows of a text above the scratch row -/
def RowEq (σ τ : am_H) (j : Nat) : Prop := ga τ 62 j = ga σ 62 j ∧ ga τ 63 j = ga σ 63 j ∧ ga τ 64 j = ga σ 64 j ∧ ga τ 65 j = ga σ 65 j ∧ ga τ 66 j = ga σ 66 j ∧ ga τ 67 j = ga σ 67 j ∧ gL τ 68 j = gL σ 68 j
def TXR (σ : am_H) (i : Nat) : Prop := ∃ (k : Nat) (tm : Nat → RS), TxtAt σ i k tm ∧ ga σ 61 i = nI k ∧ (∀ j, j < k → (∀ B, gq σ 34 (i * 3 + j) = some B → B < σ.1) ∧ TmR (tm j) (ga σ 62 (3 * i + j)) (ga σ 63 (3 * i + j)) (ga σ 64 (3 * i + j)) (ga σ 65 (3 * i + j)) (ga σ 66 (3 * i + j)) (ga σ 67 (3 * i + j)) (gL σ 68 (3 * i + j)))
theorem TXR_fr {i : Nat} (h1 : σ.1 ≤ τ.1) (hB : ∀ B, 83 ≤ B → B < σ.1 → am_get τ B = am_get σ B) (e35 : ga τ 35 i = ga σ 35 i) (e61 : ga τ 61 i = ga σ 61 i) (e34 : ∀ j, j < 3 → gq τ 34 (i * 3 + j) = gq σ 34 (i * 3 + j)) (er : ∀ j, j < 3 → RowEq σ τ (3 * i + j)) (H : TXR σ i) : TXR τ i := by
  obtain ⟨k, tm, ⟨hk, hc, hX⟩, h61, h2⟩ := H
  refine ⟨k, tm, ⟨hk, e35.trans hc, fun j hj => ?_⟩, e61.trans h61, fun j hj => ⟨fun B hb => ?_, ?_⟩⟩
  · obtain ⟨B, b1, b2, b3⟩ := hX j hj
    exact ⟨B, (e34 j (by omega)).trans b1, (hB B b3 ((h2 j hj).1 B b1)).trans b2, b3⟩
  · have := (h2 j hj).1 B ((e34 j (by omega)).symm.trans hb)
    omega
  · obtain ⟨r1, r2, r3, r4, r5, r6, r7⟩ := er j (by omega)
    rw [r1, r2, r3, r4, r5, r6, r7]
    exact (h2 j hj).2
theorem row0 (r : Int32 × MS) {j : Nat} (hj : j < 120) : RowEq σ (mTxt0 σ r) j := by
  obtain ⟨a1, a2, a3, a4, a5, a6, a7⟩ := txt0_ga (σ := σ) r
  have ne : ¬ j = 120 := by omega
  unfold RowEq
  rw [a1, a2, a3, a4, a5, a6, a7, upd_ne ne, upd_ne ne, upd_ne ne, upd_ne ne, upd_ne ne, upd_ne ne, updL_ne ne]
  exact ⟨rfl, rfl, rfl, rfl, rfl, rfl, rfl⟩
theorem row1 (j' i : Nat) (v : Int32) {j : Nat} (ne : ¬ j = j') : RowEq σ (mTxt1 σ j' i v) j := by
  obtain ⟨a1, a2, a3, a4, a5, a6, a7, -⟩ := txt1_ga (σ := σ) j' i v
  unfold RowEq
  rw [a1, a2, a3, a4, a5, a6, a7, upd_ne ne, upd_ne ne, upd_ne ne, upd_ne ne, upd_ne ne, upd_ne ne, updL_ne ne]
  exact ⟨rfl, rfl, rfl, rfl, rfl, rfl, rfl⟩
theorem row_fr {W : List Nat} {V : List (Nat × Nat)} {Y : List Nat} (F : FM W V Y σ τ) (h : ∀ x ∈ [62, 63, 64, 65, 66, 67, 68], ¬ x ∈ W) (j : Nat) : RowEq σ τ j := by
  unfold RowEq
  rw [ga_fr (a := 62) F (by decide) (h _ (by decide)), ga_fr (a := 63) F (by decide) (h _ (by decide)), ga_fr (a := 64) F (by decide) (h _ (by decide)), ga_fr (a := 65) F (by decide) (h _ (by decide)), ga_fr (a := 66) F (by decide) (h _ (by decide)), ga_fr (a := 67) F (by decide) (h _ (by decide)), gL_fr (a := 68) F (by decide) (h _ (by decide))]
  exact ⟨rfl, rfl, rfl, rfl, rfl, rfl, rfl⟩
theorem row_t {ρ : am_H} {j : Nat} (h1 : RowEq σ τ j) (h2 : RowEq τ ρ j) : RowEq σ ρ j := by
  obtain ⟨a1, a2, a3, a4, a5, a6, a7⟩ := h1
  obtain ⟨b1, b2, b3, b4, b5, b6, b7⟩ := h2
  exact ⟨b1.trans a1, b2.trans a2, b3.trans a3, b4.trans a4, b5.trans a5, b6.trans a6, b7.trans a7⟩
theorem R30_of {T : Nat} {w : Int32} {s : RS} (h : am_get σ 30 = some (rRd T w s)) : R30 σ := ⟨_, _, _, _, _, _, _, _, _, _, h⟩
theorem gi_rRd {T k : Nat} {w x : Int32} {s : RS} (h : am_get σ 30 = some (rRd T w s)) (hx : ([.ref 31, .int 1, .int s.fl, .int s.pl, .ref T, .int w, .int s.se, .int s.ki, .int (nI s.st), .int (nI s.be), .int s.nu] : List Value)[k]? = some (.int x)) : gi σ 30 4 k = x := gi_eq ((fld_get h).trans hx)
theorem mRd_fr {W : List Nat} {V : List (Nat × Nat)} {Y : List Nat} (F : FM W V Y σ τ) (h : (∀ x ∈ [40, 60, 65, 66, 67], ¬ x ∈ W) ∧ ¬ (40, 43) ∈ V) (t nw : Nat) : mRd τ t nw = mRd σ t nw := by
  have e : mSee τ t = mSee σ t := by
    funext j
    unfold mSee
    rw [ga_fr (a := 60) F (by decide) (h.1 _ (by decide))]
  unfold mRd mRd0
  rw [e, gi_fr (a := 40) (ci := 11) (k := 43) F (by decide) (h.1 _ (by decide)) h.2, ga_fr (a := 65) F (by decide) (h.1 _ (by decide)), ga_fr (a := 66) F (by decide) (h.1 _ (by decide)), ga_fr (a := 67) F (by decide) (h.1 _ (by decide))]
theorem c_text (I : INV L xs σ) (hT : σ.1 < am_top) (x : Int32) : CA L xs .int σ (fun K => ax k_A_text 0 [some (.ref 0), some (.int x), none] [] σ K) (fun σ1 K => ax k_M_text 0 [some (.ref 40), some (.int x), none] [] σ1 K) := by
  intro K K2 h1 h2
  dsimp only at h1
  have I' := I
  obtain ⟨⟨hS, hR, hH⟩, hk, n, nt, p, np, nc, nl, ne, t, ns, q, fp, fw, W, P, C, Lv, E, T, Fa, R, X, S, U⟩ := I'
  have hn := W.2.1.1
  have hnp := P.2.1.1
  have ht := T.1.2.2
  have hN : 83 ≤ σ.1 := hS.2.2.2.2.2
  show ax k_A_text 0 _ [] σ K
  by_cases c : ltB x (nI np) = true
  · obtain ⟨i, hi, rfl⟩ := ltB_ix (by omega) c
    have Xi := X i (by omega)
    obtain ⟨k, tm, ⟨hk3, hc, hX⟩, h61, h2x⟩ := Xi
    have cl : (nI i).toNatClampNeg = i := nI_clamp (by omega)
    by_cases c3 : k = 3
    · subst c3
      rw [A_text_no hS P.1.1 (by rw [cl, hc]; intro z; have := z.2; revert this; cases ltB (nI i) (nI 40) <;> decide), h1 _ _ hS hH, M_text_no hS P.1.2 hnp _ (by rw [cl, h61]; exact fun z => z.2 rfl)]
      exact h2 _ _ I (Gr_refl σ)
    · have hneg : ∀ j, mSee σ t j < 0 → mSee σ t j = -1 := by
        intro j hj
        unfold mSee at hj ⊢
        by_cases d : j < t
        · rw [if_pos d] at hj
          exact absurd hj (T.2 j d).2
        · rw [if_neg d]
      have hT2 : aSee t (ga σ 32) = mSee σ t := by
        funext j
        unfold aSee mSee
        by_cases d : j < t
        · rw [if_pos d, if_pos d]
          exact (T.2 j d).1
        · rw [if_neg d, if_neg d]
      have tr := text_rel hneg ht hn.1 hT2
      rw [A_text hS hR (HI_CST hH) T.1.1 ht hT P.1.1 hnp hi (by omega) hc, W.1.1.1]
      generalize es : aRd σ t (nI n) = s at tr
      have F : FM WT VT [] σ (aTxtS σ (nI n) s) := FM_TxtS hS hT _ _
      have Fa' : FM [30] [(31, 1)] [] σ (aTxtS σ (nI n) s) := FM_p 7 (FM_30 (FM_n (FM_refl hS) hT) (by decide)) (by decide)
      have g30 : am_get (aTxtS σ (nI n) s) 30 = some (rRd σ.1 (nI n) s) := (get_put_ne (by decide)).trans get_set_eq
      have g31 : gi (aTxtS σ (nI n) s) 31 7 1 = 0 := gi_put_eq (i_31_1 (SH_aRdS hS s))
      have gT : am_get (aTxtS σ (nI n) s) σ.1 = some (rTm s) := (get_put_ne (by omega)).trans ((get_set_ne (by omega)).trans get_new_eq)
      have n1 : (aTxtS σ (nI n) s).1 = σ.1 + 1 := put_1
      have n2 : (aTxtS σ (nI n) s).2.1 = σ.2.1 + 6 := put_2
      by_cases d : s.fl = 0
      · rw [if_pos d]
        have d2 : (mRd σ t n).1 = 0 ∧ s.pl = -1 ∧ DT (bC (mRd σ t n).2.cl) s (mRd σ t n).2 := by
          rcases tr with z | z
          · exact ⟨z.1, z.2.2.1, z.2.2.2⟩
          · exact absurd (z.2.1.symm.trans d) z.1
        have G : FM WT VT [] σ (aSh (aTxtS σ (nI n) s) i k σ.1) := FM_j (FM_q F (by decide)) (by decide)
        have Ga : FM [30, 34, 35] [(31, 1)] [] σ (aSh (aTxtS σ (nI n) s) i k σ.1) := FM_j (FM_q (FM_w Fa' (by decide) (by decide) (by decide)) (by decide)) (by decide)
        rw [h1 _ _ G.1 (HI_fr G hH), M_text G.1 (by rw [gi_fr Ga (by decide) (by decide) (by decide)]; exact T.1.2.1) ht (by rw [gi_fr Ga (by decide) (by decide) (by decide)]; exact W.1.1.2) (by rw [gi_fr Ga (by decide) (by decide) (by decide)]; exact P.1.2) hnp hi (show k < 3 by omega) (by rw [ga_fr Ga (by decide) (by decide)]; exact h61), mRd_fr Ga (by decide), if_pos d2.1]
        generalize er : mRd σ t n = r at d2
        have G2 : FM WT VT [] σ (mTxt1 (mTxt0 (aSh (aTxtS σ (nI n) s) i k σ.1) r) (3 * i + k) i (nI (k + 1))) := FM_Txt1 (FM_Txt0 G r) _ _ _
        have Gm0 : FM [62, 63, 64, 65, 66, 67, 68] [(40, 29), (40, 38), (40, 39), (40, 40), (40, 41), (40, 42), (40, 43)] [] (aSh (aTxtS σ (nI n) s) i k σ.1) (mTxt0 (aSh (aTxtS σ (nI n) s) i k σ.1) r) := by
          unfold mTxt0 mSt mTok mScr
          exact FM_p 11 (FM_p 11 (FM_p 11 (FM_p 11 (FM_p 11 (FM_p 11 (FM_p 11 (FM_l (FM_j (FM_j (FM_j (FM_j (FM_j (FM_j (FM_refl G.1) (by decide)) (by decide)) (by decide)) (by decide)) (by decide)) (by decide)) (by decide)) (by decide)) (by decide)) (by decide)) (by decide)) (by decide)) (by decide)) (by decide)
        have Gm1 : FM [61, 62, 63, 64, 65, 66, 67, 68] [] [] (mTxt0 (aSh (aTxtS σ (nI n) s) i k σ.1) r) (mTxt1 (mTxt0 (aSh (aTxtS σ (nI n) s) i k σ.1) r) (3 * i + k) i (nI (k + 1))) := by
          unfold mTxt1
          exact FM_j (FM_l (FM_j (FM_j (FM_j (FM_j (FM_j (FM_j (FM_refl Gm0.1) (by decide)) (by decide)) (by decide)) (by decide)) (by decide)) (by decide)) (by decide)) (by decide)
        have Gm : FM [61, 62, 63, 64, 65, 66, 67, 68] [(40, 29), (40, 38), (40, 39), (40, 40), (40, 41), (40, 42), (40, 43)] [] (aSh (aTxtS σ (nI n) s) i k σ.1) (mTxt1 (mTxt0 (aSh (aTxtS σ (nI n) s) i k σ.1) r) (3 * i + k) i (nI (k + 1))) := FM_t (FM_w Gm0 (by decide) (by decide) (by decide)) (FM_w Gm1 (by decide) (by decide) (by decide))
        have m1 : (mTxt1 (mTxt0 (aSh (aTxtS σ (nI n) s) i k σ.1) r) (3 * i + k) i (nI (k + 1))).1 = σ.1 + 1 := by
          simp only [mTxt1, mTxt0, mSt, mTok, mScr, aSh, set_1, put_1]
          exact n1
        have m2 : (mTxt1 (mTxt0 (aSh (aTxtS σ (nI n) s) i k σ.1) r) (3 * i + k) i (nI (k + 1))).2.1 = σ.2.1 + 6 := by
          simp only [mTxt1, mTxt0, mSt, mTok, mScr, aSh, set_2, put_2]
          exact n2
        generalize eτ : mTxt1 (mTxt0 (aSh (aTxtS σ (nI n) s) i k σ.1) r) (3 * i + k) i (nI (k + 1)) = τ at G2 Gm Gm1 m1 m2
        have t30 : am_get τ 30 = some (rRd σ.1 (nI n) s) := by
          rw [Gm.2.1.1 30 (by decide) (by decide) (by decide)]
          exact (get_set_ne (by decide)).trans ((get_set_ne (by decide)).trans g30)
        have t31 : gi τ 31 7 1 = 0 := by
          rw [gi_fr Gm (by decide) (by decide) (by decide)]
          exact (gi_set_ne (by decide)).trans ((gi_set_ne (by decide)).trans g31)
        have t0 := txt0_gi G.1 r
        have u0 := txt0_ga (σ := aSh (aTxtS σ (nI n) s) i k σ.1) r
        have u1 := txt1_ga (σ := mTxt0 (aSh (aTxtS σ (nI n) s) i k σ.1) r) (3 * i + k) i (nI (k + 1))
        rw [eτ] at u1
        have t38 : gi τ 40 11 38 = 0 := by rw [gi_fr Gm1 (by decide) (by decide) (by decide), t0.1]; exact d2.1
        have t39 : gi τ 40 11 39 = -1 := by rw [gi_fr Gm1 (by decide) (by decide) (by decide), t0.2.1, if_pos d2.1]
        have t29 : gi τ 40 11 29 = 0 := by rw [gi_fr Gm1 (by decide) (by decide) (by decide), t0.2.2]
        have t34 : gq τ 34 = va_up (gq σ 34) (i * 3 + k) (some σ.1) := by
          rw [gq_fr Gm (by decide) (by decide)]
          unfold aSh
          rw [gq_set_ne (by decide), gq_set_eq, gq_fr Fa' (by decide) (by decide)]
        have t35 : ga τ 35 = upd (ga σ 35) i (nI (k + 1)) := by
          rw [ga_fr Gm (by decide) (by decide)]
          unfold aSh
          rw [ga_set_eq, ga_fr Fa' (by decide) (by decide)]
        have t61 : ga τ 61 = upd (ga σ 61) i (nI (k + 1)) := by
          rw [u1.2.2.2.2.2.2.2, ga_fr Gm0 (by decide) (by decide), ga_fr Ga (by decide) (by decide)]
        have tT : am_get τ σ.1 = some (rTm s) := by
          rw [Gm.2.2.2.1 σ.1 hN (by show σ.1 < (aTxtS σ (nI n) s).1; omega) (by simp)]
          exact (get_set_ne (by omega)).trans ((get_set_ne (by omega)).trans gT)
        have rows : ∀ j, j < 120 → ¬ j = 3 * i + k → RowEq σ τ j := by
          intro j hj hne
          refine row_t (row_fr Ga (by decide) j) (row_t (row0 r hj) ?_)
          rw [← eτ]
          exact row1 _ _ _ hne
        refine h2 _ _ ⟨⟨G2.1, R30_of t30, HI_fr G2 hH⟩, Ick_fr G2 (by decide) hk, n, nt, p, np, nc, nl, ne, 0, ns, q, fp, fw, Iwd_fr G2 (by decide) W, Ipc_fr G2 (by decide) P, Icp_fr G2 (by decide) C, Ilv_fr G2 (by decide) Lv, Iem_fr G2 (by decide) E, ?_, ?_, Irt_fr G2 (by decide) R, ?_, Isl_fr G2 (by decide) (Nat.le_refl _) P.2.1.1 (fun i _ => by rw [ga_fr G2 (by decide) (by decide)]) S, Ipr_fr G2 (by decide) U⟩ ⟨by omega, by omega⟩
        · exact ⟨⟨t31, t29, by omega⟩, fun j hj => by omega⟩
        · refine Or.inr ⟨?_, ?_, ?_⟩
          · rw [gi_rRd (k := 1) t30 rfl]
            decide
          · rw [gi_rRd (k := 2) t30 rfl, t38]
            exact d
          · rw [gi_rRd (k := 3) t30 rfl, t39]
            exact d2.2.1
        · intro i' hi'
          by_cases e : i' = i
          · subst e
            refine ⟨k + 1, fun j => if j = k then s else tm j, ⟨by omega, by rw [t35, upd_eq], fun j hj => ?_⟩, by rw [t61, upd_eq], fun j hj => ?_⟩
            · by_cases e : j = k
              · subst e
                exact ⟨σ.1, by rw [t34, va_up_self], by dsimp only; rw [if_pos rfl]; exact tT, hN⟩
              · obtain ⟨B, b1, b2, b3⟩ := hX j (by omega)
                refine ⟨B, by rw [t34, va_up_ne _ _ (by omega)]; exact b1, ?_, b3⟩
                dsimp only
                rw [if_neg e, G2.2.2.2.1 B b3 ((h2x j (by omega)).1 B b1) (by simp)]
                exact b2
            · by_cases e : j = k
              · subst e
                refine ⟨fun B hB => ?_, ?_⟩
                · rw [t34, va_up_self] at hB
                  cases hB
                  omega
                · obtain ⟨a1, a2, a3, a4, a5, a6, a7⟩ := u0
                  obtain ⟨b1, b2, b3, b4, b5, b6, b7, -⟩ := u1
                  dsimp only
                  rw [if_pos rfl, b1, b2, b3, b4, b5, b6, b7, upd_eq, upd_eq, upd_eq, upd_eq, upd_eq, upd_eq, updL_eq, a1, a2, a3, a4, a5, a6, a7, upd_eq, upd_eq, upd_eq, upd_eq, upd_eq, upd_eq, updL_eq]
                  exact TmR_of d2.2.2
              · refine ⟨fun B hB => ?_, ?_⟩
                · rw [t34, va_up_ne _ _ (by omega)] at hB
                  have := (h2x j (by omega)).1 B hB
                  omega
                · obtain ⟨r1, r2, r3, r4, r5, r6, r7⟩ := rows (3 * i' + j) (by omega) (by omega)
                  dsimp only
                  rw [if_neg e, r1, r2, r3, r4, r5, r6, r7]
                  exact (h2x j (by omega)).2
          · refine TXR_fr (σ := σ) (by omega) (fun B hb1 hb2 => G2.2.2.2.1 B hb1 hb2 (by simp)) (by rw [t35, upd_ne e]) (by rw [t61, upd_ne e]) (fun j hj => by rw [t34, va_up_ne _ _ (by omega)]) (fun j hj => rows _ (by omega) (by omega)) (X i' hi')
      · rw [if_neg d]
        have d2 : ¬ (mRd σ t n).1 = 0 ∧ s.fl = (mRd σ t n).1 ∧ s.pl = nI (mRd σ t n).2.p := by
          rcases tr with z | z
          · exact absurd z.2.1 d
          · exact z
        rw [h1 _ _ F.1 (HI_fr F hH), M_text F.1 (by rw [gi_fr Fa' (by decide) (by decide) (by decide)]; exact T.1.2.1) ht (by rw [gi_fr Fa' (by decide) (by decide) (by decide)]; exact W.1.1.2) (by rw [gi_fr Fa' (by decide) (by decide) (by decide)]; exact P.1.2) hnp hi (show k < 3 by omega) (by rw [ga_fr Fa' (by decide) (by decide)]; exact h61), mRd_fr Fa' (by decide), if_neg d2.1]
        generalize er : mRd σ t n = r at d2
        have G2 : FM WT VT [] σ (mTxt0 (aTxtS σ (nI n) s) r) := FM_Txt0 F r
        have Gm : FM [62, 63, 64, 65, 66, 67, 68] [(40, 29), (40, 38), (40, 39), (40, 40), (40, 41), (40, 42), (40, 43)] [] (aTxtS σ (nI n) s) (mTxt0 (aTxtS σ (nI n) s) r) := by
          unfold mTxt0 mSt mTok mScr
          exact FM_p 11 (FM_p 11 (FM_p 11 (FM_p 11 (FM_p 11 (FM_p 11 (FM_p 11 (FM_l (FM_j (FM_j (FM_j (FM_j (FM_j (FM_j (FM_refl F.1) (by decide)) (by decide)) (by decide)) (by decide)) (by decide)) (by decide)) (by decide)) (by decide)) (by decide)) (by decide)) (by decide)) (by decide)) (by decide)) (by decide)
        have m1 : (mTxt0 (aTxtS σ (nI n) s) r).1 = σ.1 + 1 := by
          simp only [mTxt0, mSt, mTok, mScr, set_1, put_1]
          exact n1
        have m2 : (mTxt0 (aTxtS σ (nI n) s) r).2.1 = σ.2.1 + 6 := by
          simp only [mTxt0, mSt, mTok, mScr, set_2, put_2]
          exact n2
        have t0 := txt0_gi F.1 r
        have rows : ∀ j, j < 120 → RowEq σ (mTxt0 (aTxtS σ (nI n) s) r) j := fun j hj => row_t (row_fr Fa' (by decide) j) (row0 r hj)
        have t30 : am_get (mTxt0 (aTxtS σ (nI n) s) r) 30 = some (rRd σ.1 (nI n) s) := by
          rw [Gm.2.1.1 30 (by decide) (by decide) (by decide)]
          exact g30
        have t31 : gi (mTxt0 (aTxtS σ (nI n) s) r) 31 7 1 = 0 := by
          rw [gi_fr Gm (by decide) (by decide) (by decide)]
          exact g31
        have t34 : gq (mTxt0 (aTxtS σ (nI n) s) r) 34 = gq σ 34 := by rw [gq_fr Gm (by decide) (by decide), gq_fr Fa' (by decide) (by decide)]
        have t35 : ga (mTxt0 (aTxtS σ (nI n) s) r) 35 = ga σ 35 := by rw [ga_fr Gm (by decide) (by decide), ga_fr Fa' (by decide) (by decide)]
        have t61 : ga (mTxt0 (aTxtS σ (nI n) s) r) 61 = ga σ 61 := by rw [ga_fr Gm (by decide) (by decide), ga_fr Fa' (by decide) (by decide)]
        refine h2 _ _ ⟨⟨G2.1, R30_of t30, HI_fr G2 hH⟩, Ick_fr G2 (by decide) hk, n, nt, p, np, nc, nl, ne, 0, ns, q, fp, fw, Iwd_fr G2 (by decide) W, Ipc_fr G2 (by decide) P, Icp_fr G2 (by decide) C, Ilv_fr G2 (by decide) Lv, Iem_fr G2 (by decide) E, ?_, ?_, Irt_fr G2 (by decide) R, ?_, Isl_fr G2 (by decide) (Nat.le_refl _) P.2.1.1 (fun i _ => by rw [ga_fr G2 (by decide) (by decide)]) S, Ipr_fr G2 (by decide) U⟩ ⟨by omega, by omega⟩
        · exact ⟨⟨t31, t0.2.2, by omega⟩, fun j hj => by omega⟩
        · refine Or.inr ⟨?_, ?_, ?_⟩
          · rw [gi_rRd (k := 1) t30 rfl]
            decide
          · rw [gi_rRd (k := 2) t30 rfl, t0.1]
            exact d2.2.1
          · rw [gi_rRd (k := 3) t30 rfl, t0.2.1, if_neg d2.1]
            exact d2.2.2
        · intro i' hi'
          exact TXR_fr (σ := σ) (by omega) (fun B hb1 hb2 => G2.2.2.2.1 B hb1 hb2 (by simp)) (by rw [t35]) (by rw [t61]) (fun j hj => by rw [t34]) (fun j hj => rows _ (by omega)) (X i' hi')
  · have c' : ¬ inB x 0 (nI np - 1) = true := by rw [← ltB_in (by omega)]; exact c
    rw [A_text_no hS P.1.1 (fun z => c z.1), h1 _ _ hS hH, M_text_no hS P.1.2 hnp _ (fun z => c' z.1)]
    exact h2 _ _ I (Gr_refl σ)
end K5
