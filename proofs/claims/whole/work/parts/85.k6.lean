/-! THE CALLS ON BOTH SIDES, 6: why and by -/
section K6
variable {L : Nat} {xs : Nat → Int32} {σ τ : am_H} {n nt p np nl ne ns i k : Nat} {tm : Nat → RS} {land use size word : Int32} {isO : Nat → Bool} {g : Nat → Int32} {ch c : Int64}
theorem mWhy_fr {W0 : List Nat} {V0 : List (Nat × Nat)} {Y0 : List Nat} (F : FM W0 V0 Y0 σ τ) (h : (∀ x ∈ [40, 47, 53, 54, 55, 56, 57, 58, 62, 63, 64, 65, 66, 67, 68, 69, 70, 74, 79], ¬ x ∈ W0) ∧ ¬ (40, 0) ∈ V0) : mWhy τ n ne nl k ns i land use size word isO g = mWhy σ n ne nl k ns i land use size word isO g := by
  have c0 := gi_fr (a := 40) (ci := 11) (k := 0) F (by decide) (h.1 _ (by decide)) h.2
  have a1 : mTxtBad τ n i land use size word isO = mTxtBad σ n i land use size word isO := by
    funext j
    have z : (fun w => mShun τ (3 * i + j) w && isO w) = (fun w => mShun σ (3 * i + j) w && isO w) := by
      funext w
      simp only [mShun, gL_fr (a := 68) F (by decide) (h.1 _ (by decide))]
    simp only [mTxtBad, mLets, mTel, z, c0, ga_fr (a := 62) F (by decide) (h.1 _ (by decide)), ga_fr (a := 63) F (by decide) (h.1 _ (by decide)), ga_fr (a := 64) F (by decide) (h.1 _ (by decide)), ga_fr (a := 65) F (by decide) (h.1 _ (by decide)), ga_fr (a := 66) F (by decide) (h.1 _ (by decide)), ga_fr (a := 67) F (by decide) (h.1 _ (by decide))]
  have a2 : mPerBad τ nl i = mPerBad σ nl i := by
    funext j
    unfold mPerBad mLeaveAt
    rw [c0, ga_fr (a := 47) F (by decide) (h.1 _ (by decide)), ga_fr (a := 53) F (by decide) (h.1 _ (by decide)), ga_fr (a := 54) F (by decide) (h.1 _ (by decide)), ga_fr (a := 55) F (by decide) (h.1 _ (by decide))]
  have a3 : mSalBad τ g land = mSalBad σ g land := by
    funext j
    simp only [mSalBad, c0, ga_fr (a := 79) F (by decide) (h.1 _ (by decide)), ga_fr (a := 74) F (by decide) (h.1 _ (by decide)), ga_fr (a := 70) F (by decide) (h.1 _ (by decide)), ga_fr (a := 69) F (by decide) (h.1 _ (by decide))]
  unfold mWhy mEmbAt
  rw [a1, a2, a3, c0, ga_fr (a := 56) F (by decide) (h.1 _ (by decide)), ga_fr (a := 57) F (by decide) (h.1 _ (by decide)), ga_fr (a := 58) F (by decide) (h.1 _ (by decide))]
/-- the chain of a word, as bits -/
theorem chn_bit (W : Iwd σ n nt p) (hw : inW n word) (m : Int32) {w : Nat} (hw64 : w < 64) {f : Nat → Int32} : bitL (clR (rc2 n (rc1 f (ga σ 2) (ga σ 3) m n) (ga σ 7) (ga σ 8) (tolR (ga σ 6) m nt 0)) n 40 word 0) w = true ↔ (w < n ∧ Anc (fun x => liesF (ga σ 41) (ga σ 42) (ga σ 43) x m p) word (nI w)) :=
  chain_bit W.2.1.1.1 (fun y hy => par_eq W.2.1 f m hy) (Clo_of W.2.1 m) hw (BE_in W.2.2 hw m) hw64
theorem chn_scr (hs : Scr σ τ) (W : Iwd σ n nt p) (hw : inW n word) (m : Int32) : clR (rcF τ n nt m) n 40 word 0 = clR (rcF σ n nt m) n 40 word 0 := by
  apply bitL_ext
  intro w hw64
  apply bool_ext
  have e : rcF τ n nt m = rc2 n (rc1 (ga τ 4) (ga σ 2) (ga σ 3) m n) (ga σ 7) (ga σ 8) (tolR (ga σ 6) m nt 0) := by
    unfold rcF
    rw [Scr_ga (a := 2) hs (by decide) (by decide) (by decide), Scr_ga (a := 3) hs (by decide) (by decide) (by decide), Scr_ga (a := 6) hs (by decide) (by decide) (by decide), Scr_ga (a := 7) hs (by decide) (by decide) (by decide), Scr_ga (a := 8) hs (by decide) (by decide) (by decide)]
  rw [e, chn_bit W hw m hw64]
  unfold rcF
  rw [chn_bit W hw m hw64]
theorem setB_scr (hs : Scr σ τ) (hnp : np ≤ 40) (hi : i < np) : (setB τ np i).1 = (setB σ np i).1 := by
  have e : aLk τ = aLk σ := by
    funext x o
    unfold aLk
    rw [Scr_gi (a := 9) hs (by decide) (by decide) (by decide), Scr_ga (a := 14) hs (by decide) (by decide) (by decide)]
  obtain ⟨a1, a2⟩ := setB_ok (lk := aLk σ) (f := ga τ 15) hnp hi
  obtain ⟨b1, b2⟩ := setB_ok (lk := aLk σ) (f := ga σ 15) hnp hi
  have u := Cls_uniq a1 b1
  unfold setB
  rw [e]
  apply bitL_ext
  intro j hj
  apply bool_ext
  by_cases d : j < np
  · exact u j d
  · exact ⟨fun z => absurd (a2 j hj z) d, fun z => absurd (b2 j hj z) d⟩
theorem why_eq (hk : Ick σ) (W : Iwd σ n nt p) (P : Ipc σ np) (Lv : Ilv σ nl) (E : Iem σ ne) (S : Isl σ np ns) (hk3 : k ≤ 3) (hR : ∀ j, j < k → TmR (tm j) (ga σ 62 (3 * i + j)) (ga σ 63 (3 * i + j)) (ga σ 64 (3 * i + j)) (ga σ 65 (3 * i + j)) (ga σ 66 (3 * i + j)) (ga σ 67 (3 * i + j)) (gL σ 68 (3 * i + j))) (hi : i < np) (hl : inB land 0 9 = true) (hu : inB use 0 4 = true) (hz : inB size 1 1000 = true) (hw : inW n word) (hO : ∀ w, w < n → (isO w = true ↔ Anc (fun x => liesF (ga σ 41) (ga σ 42) (ga σ 43) x (gi σ 40 11 0) p) word (nI w))) (hch : ch = clR (rcF σ n nt (gi σ 40 11 0)) n 40 word 0) (hc : ∀ j, j < 64 → bitL c j = (decide (j < np) && !decide (g j = 0))) : (aWhy σ nl ne ns i k tm (vS σ) land use size ch c).1 = (mWhy σ n ne nl k ns i land use size word isO g).1 ∧ (aWhy σ nl ne ns i k tm (vS σ) land use size ch c).2 = (mWhy σ n ne nl k ns i land use size word isO g).2.1 := by
  have hn := W.2.1.1
  have hnp := P.2.1.1
  have clk0 : ¬ gi σ 40 11 0 < 0 := by
    have := hk.2
    simp only [inB, Bool.and_eq_true, Bool.not_eq_true', decide_eq_false_iff_not] at this
    exact this.1
  have chb : ∀ w, w < 64 → bitL ch w = (decide (w < n) && (!decide (word < 0) && isO w)) := by
    intro w hw64
    apply bool_ext
    rw [hch, show rcF σ n nt (gi σ 40 11 0) = rc2 n (rc1 (ga σ 4) (ga σ 2) (ga σ 3) (gi σ 40 11 0) n) (ga σ 7) (ga σ 8) (tolR (ga σ 6) (gi σ 40 11 0) nt 0) from rfl, chn_bit W hw _ hw64]
    constructor
    · rintro ⟨z1, z2⟩
      have : ¬ word < 0 := by
        rcases hw with e | ⟨y, hy, e⟩
        · rw [e] at z2
          exact (anc_m1 z2).elim
        · rw [e]
          exact nI_pos (by omega)
      simp only [z1, this, decide_true, decide_false, Bool.true_and, Bool.not_false]
      exact (hO w z1).mpr z2
    · intro z
      simp only [Bool.and_eq_true, decide_eq_true_eq] at z
      exact ⟨z.1, (hO w z.1).mp z.2.2⟩
  have e1 : latF (ga σ 27) (ga σ 28) (ga σ 29) (nI i) (gi σ 40 11 0) 0 ne = mEmbAt σ ne (nI i) (gi σ 40 11 0) := lat_last ne E.2.2
  have e2 : fstR (txtB k tm land use size (gi σ 40 11 0) ch) 0 3 = fstR (mTxtBad σ n i land use size word isO) 0 k := by
    rw [show 3 = k + (3 - k) by omega, fstR_tail (d := 3 - k) k 0 (fun j h3 h4 => by unfold txtB; rw [decide_eq_false (by omega)]; rfl)]
    refine fstR_ext k 0 (fun j _ hj => ?_)
    unfold txtB mTxtBad
    rw [decide_eq_true (by omega), Bool.true_and, lets_eq (hR j (by omega)) hl hu hz hk.2 hn.1 chb]
  have e3 : fstR (perB σ nl i) 0 16 = fstR (mPerBad σ nl i) 0 16 := by
    refine fstR_ext 16 0 (fun j _ hj => ?_)
    unfold perB mPerBad
    rw [hld_nI _ (by omega), bitL_of _ (by omega), hk.1, lat_last nl Lv.2.1.2, (P.2.1.2.1 i hi).1.2.2]
    have : decide ((ga σ 47 i >>> (nI j &&& 31)) &&& 1 = 0) = !bitI (ga σ 47 i) j := by
      cases h : bitI (ga σ 47 i) j
      · exact decide_eq_true ((shr0_I _ (by omega)).mpr h)
      · exact decide_eq_false (fun z => by have := (shr0_I _ (show j < 32 by omega)).mp z; rw [h] at this; cases this)
    rw [this, Bool.not_not]
    rfl
  have e4 : fstR (shutB (vS σ) c land (gi σ 40 11 0)) 0 ns = fstR (mSalBad σ g land) 0 ns := by
    refine fstR_ext ns 0 (fun s _ hs => ?_)
    obtain ⟨-, h60, A, -, -, -, hr⟩ := S
    obtain ⟨⟨x, hx, ex⟩, hun, -⟩ := hr s (by omega)
    unfold shutB mSalBad
    simp only [vS]
    rw [ex, hld_nI _ (by omega), nI_clamp (by omega), hc x (by omega), decide_eq_true hx, Bool.true_and]
    rcases hun with hun | hun
    · have : ga σ 74 s < gi σ 40 11 0 := by
        rw [hun]
        exact Int32.lt_of_lt_of_le (by decide) (Int32.not_lt.mp clk0)
      rw [decide_eq_true this, decide_eq_true hun]
      simp
    · have : ¬ ga σ 74 s = -1 := fun z => hun (by rw [z]; decide)
      simp [this]
  have key : aWhy σ nl ne ns i k tm (vS σ) land use size ch c = ((mWhy σ n ne nl k ns i land use size word isO g).1, (mWhy σ n ne nl k ns i land use size word isO g).2.1) := by
    unfold aWhy mWhy
    rw [hk.1, e1, e2, e3, e4]
    by_cases d : gi σ 40 11 0 < mEmbAt σ ne (nI i) (gi σ 40 11 0)
    · rw [if_pos d, if_pos d]
    · rw [if_neg d, if_neg d]
      cases fstR (mTxtBad σ n i land use size word isO) 0 k with
      | some a => rfl
      | none =>
        cases fstR (mPerBad σ nl i) 0 16 with
        | some a => rfl
        | none =>
          cases fstR (mSalBad σ g land) 0 ns with
          | some a => rfl
          | none => rfl
  rw [key]
  exact ⟨rfl, rfl⟩
theorem aUse_eq (P : Ipc σ np) (x : Int32) : aUse σ x land use size = mUse σ x land use size := by
  have := P.2.1.1
  unfold aUse mUse
  rw [P.1.1, P.1.2, ltB_in (by omega), ltB_10, ltB_5]
theorem aBes_eq (W : Iwd σ n nt p) : aBes σ word = mBes σ word := by
  have := W.2.1.1
  unfold aBes mBes
  rw [W.1.1.1, W.1.1.2, ltB_in (by omega)]
theorem bes_in (W : Iwd σ n nt p) (h : aBes σ word = true) : inW n word := by
  unfold aBes at h
  rw [W.1.1.1] at h
  simp only [Bool.or_eq_true, decide_eq_true_eq] at h
  exact inW_of W.2.1.1.1 h
theorem AOk_of {A : Nat → Nat} {v : Nat → Nat → Int32} (hS : SH σ) (W : Iwd σ n nt p) (P : Ipc σ np) (Lv : Ilv σ nl) (E : Iem σ ne) (S : Isl σ np ns) (hA : SalAt σ ns A v) : AOk σ n nt np nl ne ns A v := ⟨hS, ⟨W.1.1.1, W.2.1.1.1⟩, ⟨W.1.2.1.1, W.2.1.1.2.1⟩, ⟨P.1.1, P.2.1.1⟩, ⟨Lv.1.1, Lv.2.1.1⟩, ⟨E.1.1, E.2.1⟩, ⟨S.1.1, S.2.1⟩, hA⟩
theorem MWy_of (W : Iwd σ n nt p) (P : Ipc σ np) (Lv : Ilv σ nl) (E : Iem σ ne) (S : Isl σ np ns) : MWy σ p n np ns nl ne := by
  have hn := W.2.1.1
  have hnp := P.2.1.1
  refine ⟨⟨W.1.2.2, by omega⟩, ⟨W.1.1.2, hn.1⟩, ⟨P.1.2, hnp⟩, ⟨S.1.2, S.2.1⟩, ⟨Lv.1.2, Lv.2.1.1⟩, ⟨E.1.2, E.2.1⟩, Lv.2.2, fun s hs => ?_⟩
  obtain ⟨-, -, A, -, -, -, hr⟩ := S
  obtain ⟨⟨x, hx, ex⟩, -⟩ := hr s hs
  exact ⟨x, by omega, ex⟩
/-- what why, by and sale need of a use that may be asked for -/
theorem why_pre (hS : SH σ) (hk : Ick σ) (W : Iwd σ n nt p) (P : Ipc σ np) (Lv : Ilv σ nl) (E : Iem σ ne) (S : Isl σ np ns) (X : TXS σ) (hi : i < np) (hu : mUse σ (nI i) land use size = true) (hb : aBes σ word = true) : ∃ (k : Nat) (tm : Nat → RS) (isO : Nat → Bool) (ch c : Int64) (g : Nat → Int32) (N : Nat),
    TxtAt σ i k tm ∧ ga σ 61 i = nI k ∧ (∀ τ, Scr σ τ → clR (rcF τ n nt (gi σ 0 10 11)) n 40 word 0 = ch) ∧ (∀ τ, Scr σ τ → (setB τ np i).1 = c) ∧ (∀ τ, Scr σ τ → mSpr τ np N (nI i) = some g) ∧ (¬ g i = 0) ∧ (∀ j, j < 64 → bitL c j = (decide (j < np) && !decide (g j = 0))) ∧ (∀ τ, Scr σ τ → ¬ word < 0 → ∀ w, w < n → ∃ N, upF (mLies τ p (gi τ 40 11 0)) (nI w) N word = some (isO w)) ∧ (∀ τ, Scr σ τ → (aWhy σ nl ne ns i k tm (vS σ) land use size ch c).1 = (mWhy τ n ne nl k ns i land use size word isO g).1 ∧ (aWhy σ nl ne ns i k tm (vS σ) land use size ch c).2 = (mWhy τ n ne nl k ns i land use size word isO g).2.1) := by
  have hn := W.2.1.1
  have hnp := P.2.1.1
  have hw := bes_in W hb
  obtain ⟨k, tm, hX, h61, h2⟩ := X i (by omega)
  obtain ⟨isO, hO⟩ := ex_down W.2.2 hw hn.1 (gi σ 40 11 0)
  obtain ⟨N, g, hg, hgi, hgb⟩ := set_eq P.2.1 P.2.2 hi
  have fs : ∀ {τ : am_H}, Scr σ τ → FM [4, 15, 21] [] [] σ τ := fun h => FM_s (FM_refl hS) h (by decide)
  have hu' := hu
  unfold mUse at hu'
  simp only [Bool.and_eq_true] at hu'
  refine ⟨k, tm, isO, clR (rcF σ n nt (gi σ 40 11 0)) n 40 word 0, (setB σ np i).1, g, N, hX, h61, fun τ h => ?_, fun τ h => setB_scr h hnp hi, fun τ h => ?_, hgi, hgb, fun τ h _ w hw => ?_, fun τ h => ?_⟩
  · rw [hk.1]
    exact chn_scr h W hw _
  · rw [set_fr (fs h) (by decide)]
    exact hg
  · rw [mLies_fr (fs h) (by decide), gi_fr (a := 40) (ci := 11) (k := 0) (fs h) (by decide) (by decide) (by decide)]
    exact (hO w hw).1
  · rw [mWhy_fr (fs h) (by decide)]
    exact why_eq hk W P Lv E S hX.1 (fun j hj => (h2 j hj).2) hi hu'.1.1.2 hu'.1.2 hu'.2 hw (fun w hw => (hO w hw).2) rfl hgb
theorem mWhyS_fr (F : FM [4, 15, 21, 59] [(40, 44)] [] σ τ) (r : Int32 × Int32 × Bool) : FM [4, 15, 21, 59] [(40, 44)] [] σ (mWhyS τ g r) := by
  unfold mWhyS
  split
  · exact FM_p 11 (FM_j F (by decide)) (by decide)
  · exact FM_p 11 F (by decide)
theorem mWhyS_n (r : Int32 × Int32 × Bool) : (mWhyS τ g r).1 = τ.1 ∧ (mWhyS τ g r).2.1 = τ.2.1 := by
  unfold mWhyS
  split
  · exact ⟨put_1, put_2⟩
  · exact ⟨put_1, put_2⟩
theorem use_fr {W : List Nat} {V : List (Nat × Nat)} {Y : List Nat} (F : FM W V Y σ τ) (h : ¬ 40 ∈ W ∧ ¬ (40, 7) ∈ V ∧ ¬ (40, 1) ∈ V ∧ ¬ (40, 0) ∈ V) (x y : Int32) : mUse τ x land use size = mUse σ x land use size ∧ mBes τ word = mBes σ word ∧ mTill τ y = mTill σ y := by
  unfold mUse mBes mTill
  rw [gi_fr (a := 40) (ci := 11) (k := 7) F (by decide) h.1 h.2.1, gi_fr (a := 40) (ci := 11) (k := 1) F (by decide) h.1 h.2.2.1, gi_fr (a := 40) (ci := 11) (k := 0) F (by decide) h.1 h.2.2.2]
  exact ⟨rfl, rfl, rfl⟩
theorem c_why (I : INV L xs σ) (x land use size word : Int32) : CA L xs .int σ (fun K => ax k_A_why 0 [some (.ref 0), some (.int x), some (.int land), some (.int use), some (.int size), some (.int word), none] [] σ K) (fun σ1 K => ax k_M_why 0 [some (.ref 40), some (.int x), some (.int land), some (.int use), some (.int size), some (.int word)] [] σ1 K) := by
  intro K K2 h1 h2
  dsimp only at h1
  have I' := I
  obtain ⟨⟨hS, hR, hH⟩, hk, n, nt, p, np, nc, nl, ne, t, ns, q, fp, fw, W, P, C, Lv, E, T, Fa, R, X, S, U⟩ := I'
  show ax k_A_why 0 _ [] σ K
  by_cases c : aUse σ x land use size = true ∧ aBes σ word = true
  · have hnp := P.2.1.1
    have hu : mUse σ x land use size = true := by rw [← aUse_eq P]; exact c.1
    obtain ⟨i, hi, rfl⟩ := mUse_1 P.1.2 hnp hu
    obtain ⟨k, tm, isO, ch, cc, g, N, hX, h61, q1, q2, q3, q4, q5, q6, q7⟩ := why_pre hS hk W P Lv E S X hi hu c.2
    obtain ⟨A, hSal, -⟩ := S.2.2
    refine A_why (AOk_of hS W P Lv E S hSal) hX hi land use size word c.1 c.2 q1 q2 (fun τ hs => ?_)
    have F : FM [4, 15, 21, 59] [(40, 44)] [] σ τ := FM_s (FM_refl hS) hs (by decide)
    obtain ⟨u1, u2, -⟩ := use_fr (land := land) (use := use) (size := size) (word := word) F (by decide) (nI i) 0
    have W1 := Iwd_fr F (by decide) W
    have P1 := Ipc_fr F (by decide) P
    have Lv1 := Ilv_fr F (by decide) Lv
    have E1 := Iem_fr F (by decide) E
    have S1 := Isl_fr (np2 := np) F (by decide) (Nat.le_refl _) hnp (fun i _ => by rw [ga_fr F (by decide) (by decide)]) S
    rw [h1 _ _ F.1 (HI_fr F hH), (M_why F.1 (MWy_of W1 P1 Lv1 E1 S1) hi (by rw [ga_fr F (by decide) (by decide)]; exact h61) hX.1 (q3 τ hs) land use size word (q6 τ hs) (u1.trans hu) (u2.trans (by rw [← aBes_eq W]; exact c.2))).1, (q7 τ hs).1]
    have F2 := mWhyS_fr (g := g) F (mWhy τ n ne nl k ns i land use size word isO g)
    have m := mWhyS_n (τ := τ) (g := g) (mWhy τ n ne nl k ns i land use size word isO g)
    exact h2 _ _ (INV_scr F2 I) ⟨by rw [m.1, hs.2.1]; omega, by rw [m.2, hs.2.2.1]; omega⟩
  · rw [A_why_no hS x land use size word c, h1 _ _ hS hH, (M_why_no hS x land use size word (by rw [← aUse_eq P, ← aBes_eq W]; exact c)).1]
    exact h2 _ _ I (Gr_refl σ)
theorem c_by (I : INV L xs σ) (x land use size word : Int32) : CA L xs .int σ (fun K => ax k_A_by 0 [some (.ref 0), some (.int x), some (.int land), some (.int use), some (.int size), some (.int word)] [] σ K) (fun σ1 K => ax k_M_by 0 [some (.ref 40), some (.int x), some (.int land), some (.int use), some (.int size), some (.int word)] [] σ1 K) := by
  intro K K2 h1 h2
  dsimp only at h1
  have I' := I
  obtain ⟨⟨hS, hR, hH⟩, hk, n, nt, p, np, nc, nl, ne, t, ns, q, fp, fw, W, P, C, Lv, E, T, Fa, R, X, S, U⟩ := I'
  show ax k_A_by 0 _ [] σ K
  by_cases c : aUse σ x land use size = true ∧ aBes σ word = true
  · have hnp := P.2.1.1
    have hu : mUse σ x land use size = true := by rw [← aUse_eq P]; exact c.1
    obtain ⟨i, hi, rfl⟩ := mUse_1 P.1.2 hnp hu
    obtain ⟨k, tm, isO, ch, cc, g, N, hX, h61, q1, q2, q3, q4, q5, q6, q7⟩ := why_pre hS hk W P Lv E S X hi hu c.2
    obtain ⟨A, hSal, -⟩ := S.2.2
    refine A_by (AOk_of hS W P Lv E S hSal) hX hi land use size word c.1 c.2 q1 q2 (fun τ hs => ?_)
    have F : FM [4, 15, 21, 59] [(40, 44)] [] σ τ := FM_s (FM_refl hS) hs (by decide)
    obtain ⟨u1, u2, -⟩ := use_fr (land := land) (use := use) (size := size) (word := word) F (by decide) (nI i) 0
    have W1 := Iwd_fr F (by decide) W
    have P1 := Ipc_fr F (by decide) P
    have Lv1 := Ilv_fr F (by decide) Lv
    have E1 := Iem_fr F (by decide) E
    have S1 := Isl_fr (np2 := np) F (by decide) (Nat.le_refl _) hnp (fun i _ => by rw [ga_fr F (by decide) (by decide)]) S
    rw [h1 _ _ F.1 (HI_fr F hH), (M_why F.1 (MWy_of W1 P1 Lv1 E1 S1) hi (by rw [ga_fr F (by decide) (by decide)]; exact h61) hX.1 (q3 τ hs) land use size word (q6 τ hs) (u1.trans hu) (u2.trans (by rw [← aBes_eq W]; exact c.2))).2, (q7 τ hs).2]
    have F2 := mWhyS_fr (g := g) F (mWhy τ n ne nl k ns i land use size word isO g)
    have m := mWhyS_n (τ := τ) (g := g) (mWhy τ n ne nl k ns i land use size word isO g)
    exact h2 _ _ (INV_scr F2 I) ⟨by rw [m.1, hs.2.1]; omega, by rw [m.2, hs.2.2.1]; omega⟩
  · rw [A_by_no hS x land use size word c, h1 _ _ hS hH, (M_why_no hS x land use size word (by rw [← aUse_eq P, ← aBes_eq W]; exact c)).2]
    exact h2 _ _ I (Gr_refl σ)
end K6
