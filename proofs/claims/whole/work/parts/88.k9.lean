/-! THE CALLS ON BOTH SIDES, 9: a sale -/
theorem x64_div {x y : Nat} (hx : x < 2 ^ 63) (hy : y < 2 ^ 63) : Int64.ofNat x / Int64.ofNat y = Int64.ofNat (x / y) := by
  apply Int64.toInt_inj.mp
  have hq : x / y < 2 ^ 63 := Nat.lt_of_le_of_lt (Nat.div_le_self _ _) hx
  rw [Int64.toInt_div, Int64.toInt_ofNat_of_lt hx, Int64.toInt_ofNat_of_lt hy, Int64.toInt_ofNat_of_lt hq, ← Int.ofNat_tdiv]
  generalize x / y = q at *
  rw [Int.bmod_def]
  omega
theorem x64_32 (n : Nat) : (Int64.ofNat n).toInt32 = nI n := by
  apply Int32.toBitVec_inj.mp
  show ((BitVec.ofNat 64 n).signExtend 32) = BitVec.ofNat 32 n
  rw [BitVec.signExtend_eq_setWidth_of_le _ (by decide)]
  apply BitVec.eq_of_toNat_eq
  simp only [BitVec.toNat_setWidth, BitVec.toNat_ofNat]
  omega
theorem sale_num {r z m s : Nat} (hr : r ≤ 100000) (hz : z ≤ 1000) (hm : m ≤ 2) (hs : s ≤ 100) : ∃ v, v ≤ 200000000 ∧ ((nI r * nI z * nI m).toInt64 * (nI s).toInt64 / 100).toInt32 = nI v := by
  have b1 : r * z ≤ 100000 * 1000 := Nat.mul_le_mul hr hz
  have b2 : r * z * m ≤ 100000 * 1000 * 2 := Nat.mul_le_mul b1 hm
  have b3 : r * z * m * s ≤ 100000 * 1000 * 2 * 100 := Nat.mul_le_mul b2 hs
  refine ⟨r * z * m * s / 100, by omega, ?_⟩
  rw [pk_mul, pk_mul, x64 (by omega), x64 (by omega), ← Int64.ofNat_mul, show (100 : Int64) = Int64.ofNat 100 from rfl, x64_div (by omega) (by omega), x64_32]
theorem split_num {al : Int32} {v : Nat} (hv : v ≤ 200000000) (e : al = nI v) {c : Prop} [Decidable c] : ∃ a b, a < 2 ^ 30 ∧ b < 2 ^ 30 ∧ al - (if c then 0 else al / 10) = nI a ∧ (if c then 0 else al / 10) = nI b := by
  subst e
  by_cases d : c
  · rw [if_pos d]
    exact ⟨v, 0, by omega, by omega, by rw [Int32.sub_zero], rfl⟩
  · rw [if_neg d, show (10 : Int32) = nI 10 from rfl, xI_div (by omega) (by omega), xI_sub (by omega)]
    exact ⟨v - v / 10, v / 10, by omega, by omega, rfl, rfl⟩
theorem firR_some {g tk : Nat → Int32} : ∀ n, n < 1000 → (∃ j, j < n ∧ ¬ g j = 0) → ∃ f, f < n ∧ firR g tk n = nI f := by
  intro n
  induction n with
  | zero => intro _ ⟨j, hj, _⟩; omega
  | succ n ih =>
    intro hn ⟨j, hj, hg⟩
    simp only [firR]
    by_cases d : g n = 0
    · rw [if_pos d]
      have : ¬ j = n := fun e => hg (by rw [e]; exact d)
      obtain ⟨f, hf, e⟩ := ih (by omega) ⟨j, by omega, hg⟩
      exact ⟨f, by omega, e⟩
    · rw [if_neg d]
      by_cases d2 : firR g tk n < 0
      · rw [if_pos d2]
        exact ⟨n, by omega, rfl⟩
      · rw [if_neg d2]
        by_cases d3 : tk n < tk (firR g tk n).toNatClampNeg
        · rw [if_pos d3]
          exact ⟨n, by omega, rfl⟩
        · rw [if_neg d3]
          rcases firR_in g tk n (by omega) with z | ⟨f, hf, z⟩
          · rw [z] at d2
            exact absurd (by decide) d2
          · exact ⟨f, by omega, z⟩
section K9
variable {L : Nat} {xs : Nat → Int32} {σ τ : am_H} {n nt p np nl ne ns i k : Nat} {tm : Nat → RS} {land use size word till : Int32} {isO : Nat → Bool} {g : Nat → Int32} {ch c : Int64}
theorem mWhy_0 (h : (mWhy σ n ne nl k ns i land use size word isO g).1 = 0) : (mWhy σ n ne nl k ns i land use size word isO g).2.2 = true := by
  unfold mWhy at h ⊢
  by_cases d : gi σ 40 11 0 < mEmbAt σ ne (nI i) (gi σ 40 11 0)
  · rw [if_pos d] at h
    exact absurd h (by decide)
  · rw [if_neg d] at h ⊢
    revert h
    cases fstR (mTxtBad σ n i land use size word isO) 0 k with
    | some a => intro h; exact absurd h (show ¬ (2 : Int32) = 0 by decide)
    | none =>
      cases fstR (mPerBad σ nl i) 0 16 with
      | some a => intro h; exact absurd h (show ¬ (3 : Int32) = 0 by decide)
      | none =>
        cases fstR (mSalBad σ g land) 0 ns with
        | some a => intro h; exact absurd h (show ¬ (4 : Int32) = 0 by decide)
        | none => intro _; rfl
theorem till_eq (hk : Ick σ) : aTill σ till = mTill σ till := by
  unfold aTill mTill
  congr 1
  rw [hk.1]
  have := hk.2
  apply bool_ext
  simp only [inB, Bool.and_eq_true, Bool.not_eq_true', decide_eq_false_iff_not] at this ⊢
  constructor
  · rintro ⟨⟨a, b⟩, c⟩
    exact ⟨c, b⟩
  · rintro ⟨a, b⟩
    exact ⟨⟨fun z => a (Int32.lt_of_lt_of_le z (Int32.not_lt.mp this.1)), b⟩, a⟩
theorem till_in (hk : Ick σ) (h : mTill σ till = true) : till = -1 ∨ ¬ till < 0 := by
  rw [← till_eq hk] at h
  unfold aTill at h
  simp only [Bool.or_eq_true, decide_eq_true_eq, Bool.and_eq_true, inB, Bool.not_eq_true', decide_eq_false_iff_not] at h
  rcases h with h | h
  · exact Or.inl h
  · exact Or.inr h.1.1
theorem c_sale (I : INV L xs σ) (hT : σ.1 < am_top) (x land use size word till : Int32) : CA L xs .int σ (fun K => ax k_A_sale 0 [some (.ref 0), some (.int x), some (.int land), some (.int use), some (.int size), some (.int word), some (.int till), none, none] [] σ K) (fun σ1 K => ax k_M_sale 0 [some (.ref 40), some (.int x), some (.int land), some (.int use), some (.int size), some (.int word), some (.int till), none, none, none] [] σ1 K) := by
  intro K K2 h1 h2
  dsimp only at h1
  have I' := I
  obtain ⟨⟨hS, hR, hH⟩, hk, n, nt, p, np, nc, nl, ne, t, ns, q, fp, fw, W, P, C, Lv, E, T, Fa, R, X, S, U⟩ := I'
  show ax k_A_sale 0 _ [] σ K
  by_cases c : ((aUse σ x land use size = true ∧ aBes σ word = true) ∧ aTill σ till = true) ∧ ¬ ns = 60
  · have hn := W.2.1.1
    have hnp := P.2.1.1
    have hN : 83 ≤ σ.1 := hS.2.2.2.2.2
    have hu : mUse σ x land use size = true := by rw [← aUse_eq P]; exact c.1.1.1
    have hbe : mBes σ word = true := by rw [← aBes_eq W]; exact c.1.1.2
    have hti : mTill σ till = true := by rw [← till_eq hk]; exact c.1.2
    obtain ⟨i, hi, rfl⟩ := mUse_1 P.1.2 hnp hu
    have hu' := hu
    unfold mUse at hu'
    simp only [Bool.and_eq_true] at hu'
    obtain ⟨u, -, hu4, rfl⟩ := inB_nat (lo := 0) (hi := 4) (by decide) (by decide) hu'.1.2
    obtain ⟨z, -, hz, ez⟩ := inB_nat (lo := 1) (hi := 1000) (by decide) (by decide) hu'.2
    obtain ⟨k, tm, isO, ch, cc, g, N, hX, h61, q1, q2, q3, q4, q5, q6, q7⟩ := why_pre hS hk W P Lv E S X hi hu c.1.1.2
    have S' := S
    obtain ⟨⟨s1, s2⟩, h60, A, hSal, hA, hinj, hr⟩ := S'
    have s0 := Scr_refl hS
    have ef : firA σ cc np = firR g (ga σ 45) np := firR_ext np (by omega) (fun j hj => ⟨by
      rw [hld_nI _ (by omega), q5 j (by omega), decide_eq_true hj, Bool.true_and]
      by_cases d : g j = 0 <;> simp [d, bi], (P.2.1.2.1 j hj).1.2.1⟩)
    obtain ⟨f, hf, hff⟩ := firR_some (g := g) (tk := ga σ 45) np (by omega) ⟨i, hi, q4⟩
    refine A_sale (AOk_of hS W P Lv E S hSal) hX hi (show u < 5 by omega) land size word till c.1.1.1 c.1.1.2 c.1.2 c.2 hT q1 q2 hf (ef.trans hff) (fun h0 τ hs => ?_) (fun h0 τ hs => ?_)
    · have ht1 : τ.1 = σ.1 := hs.2.1
      have ht2 : τ.2.1 = σ.2.1 := hs.2.2.1
      have F1 : FM [4, 15, 21, 37] [(36, 2)] [] σ (aSalS τ ns (aSalL σ i u f land size till)) := FM_p 2 (FM_q (FM_n (FM_s (FM_refl hS) hs (by decide)) (by omega)) (by decide)) (by decide)
      obtain ⟨u1, u2, u3⟩ := use_fr (land := land) (use := nI u) (size := size) (word := word) F1 (by decide) (nI i) till
      have W1 := Iwd_fr F1 (by decide) W
      have P1 := Ipc_fr F1 (by decide) P
      have Lv1 := Ilv_fr F1 (by decide) Lv
      have E1 := Iem_fr F1 (by decide) E
      have H1 : MWy (aSalS τ ns (aSalL σ i u f land size till)) p n np ns nl ne := by
        refine ⟨⟨W1.1.2.2, by omega⟩, ⟨W1.1.1.2, hn.1⟩, ⟨P1.1.2, hnp⟩, ⟨by rw [gi_fr F1 (by decide) (by decide) (by decide)]; exact s2, h60⟩, ⟨Lv1.1.2, Lv1.2.1.1⟩, ⟨E1.1.2, E1.2.1⟩, Lv1.2.2, fun s hs => ?_⟩
        obtain ⟨⟨a, ha, e⟩, -⟩ := hr s hs
        exact ⟨a, by omega, by rw [ga_fr F1 (by decide) (by decide)]; exact e⟩
      have g37 : gq (aSalS τ ns (aSalL σ i u f land size till)) 37 = va_up (gq σ 37) ns (some σ.1) := by
        unfold aSalS
        rw [gq_put, gq_set_eq, Scr_gq (a := 37) hs (by decide) (by decide) (by decide), ht1]
      have gN : am_get (aSalS τ ns (aSalL σ i u f land size till)) σ.1 = some (am_ob 5 (aSalL σ i u f land size till)) := by
        unfold aSalS
        rw [get_put_ne (by omega), get_set_ne (by omega), ← ht1]
        exact get_new_eq
      have g36 : gi (aSalS τ ns (aSalL σ i u f land size till)) 36 2 2 = nI (ns + 1) := by
        refine gi_put_eq (w := .int (gi τ 36 2 2)) ?_
        rw [fld_set_ne (by decide), fld_new_ne (by omega)]
        exact i_36_2 hs.1
      have n1 : (aSalS τ ns (aSalL σ i u f land size till)).1 = σ.1 + 1 := by
        unfold aSalS
        rw [put_1, set_1, new_1, ht1]
      have n2 : (aSalS τ ns (aSalL σ i u f land size till)).2.1 = σ.2.1 + 13 := by
        unfold aSalS
        rw [put_2, set_2, new_2, ht2]
      have eW := mWhy_fr (n := n) (ne := ne) (nl := nl) (k := k) (ns := ns) (i := i) (land := land) (use := nI u) (size := size) (word := word) (isO := isO) (g := g) F1 (by decide)
      have hm0 : (mWhy (aSalS τ ns (aSalL σ i u f land size till)) n ne nl k ns i land (nI u) size word isO g).1 = 0 := by
        rw [eW, ← (q7 σ s0).1]
        exact h0
      have hm2 := mWhy_0 hm0
      rw [h1 _ _ F1.1 (HI_fr F1 hH), M_sale_go F1.1 H1 hi (by rw [ga_fr F1 (by decide) (by decide)]; exact h61) hX.1 (by rw [set_fr F1 (by decide)]; exact q3 σ s0) land (nI u) size word till (fun hw w hw2 => by rw [mLies_fr F1 (by decide), gi_fr (a := 40) (ci := 11) (k := 0) F1 (by decide) (by decide) (by decide)]; exact q6 σ s0 hw w hw2) (u1.trans hu) (u2.trans hbe) (u3.trans hti) c.2, if_pos hm0]
      have eS : mWhyS (aSalS τ ns (aSalL σ i u f land size till)) g (mWhy (aSalS τ ns (aSalL σ i u f land size till)) n ne nl k ns i land (nI u) size word isO g) = am_put (mSet (aSalS τ ns (aSalL σ i u f land size till)) g) 40 44 (.int (mWhy (aSalS τ ns (aSalL σ i u f land size till)) n ne nl k ns i land (nI u) size word isO g).2.1) := by
        unfold mWhyS
        rw [if_pos hm2]
      rw [eS]
      have F2 : FM [4, 15, 21, 37, 59] [(36, 2), (40, 44)] [] σ (am_put (mSet (aSalS τ ns (aSalL σ i u f land size till)) g) 40 44 (.int (mWhy (aSalS τ ns (aSalL σ i u f land size till)) n ne nl k ns i land (nI u) size word isO g).2.1)) := FM_p 11 (FM_j (FM_w F1 (by decide) (by decide) (by decide)) (by decide)) (by decide)
      have e59 : ga (am_put (mSet (aSalS τ ns (aSalL σ i u f land size till)) g) 40 44 (.int (mWhy (aSalS τ ns (aSalL σ i u f land size till)) n ne nl k ns i land (nI u) size word isO g).2.1)) 59 = g := by rw [ga_put, ga_set_eq]
      have e37 : gq (am_put (mSet (aSalS τ ns (aSalL σ i u f land size till)) g) 40 44 (.int (mWhy (aSalS τ ns (aSalL σ i u f land size till)) n ne nl k ns i land (nI u) size word isO g).2.1)) 37 = va_up (gq σ 37) ns (some σ.1) := by rw [gq_put, gq_set_ne (by decide), g37]
      have eN : am_get (am_put (mSet (aSalS τ ns (aSalL σ i u f land size till)) g) 40 44 (.int (mWhy (aSalS τ ns (aSalL σ i u f land size till)) n ne nl k ns i land (nI u) size word isO g).2.1)) σ.1 = some (am_ob 5 (aSalL σ i u f land size till)) := by rw [get_put_ne (by omega), get_set_ne (by omega), gN]
      have e36 : gi (am_put (mSet (aSalS τ ns (aSalL σ i u f land size till)) g) 40 44 (.int (mWhy (aSalS τ ns (aSalL σ i u f land size till)) n ne nl k ns i land (nI u) size word isO g).2.1)) 36 2 2 = nI (ns + 1) := by rw [gi_put_ne (by decide), gi_set_ne (by decide), g36]
      have k1 : (am_put (mSet (aSalS τ ns (aSalL σ i u f land size till)) g) 40 44 (.int (mWhy (aSalS τ ns (aSalL σ i u f land size till)) n ne nl k ns i land (nI u) size word isO g).2.1)).1 = σ.1 + 1 := by rw [put_1, set_1, n1]
      have k2 : (am_put (mSet (aSalS τ ns (aSalL σ i u f land size till)) g) 40 44 (.int (mWhy (aSalS τ ns (aSalL σ i u f land size till)) n ne nl k ns i land (nI u) size word isO g).2.1)).2.1 = σ.2.1 + 13 := by rw [put_2, set_2, n2]
      generalize am_put (mSet (aSalS τ ns (aSalL σ i u f land size till)) g) 40 44 (.int (mWhy (aSalS τ ns (aSalL σ i u f land size till)) n ne nl k ns i land (nI u) size word isO g).2.1) = ρ at F2 e59 e37 eN e36 k1 k2
      have eM : mSpr ρ np N (nI i) = some g := by
        have hg := q3 σ s0
        unfold mSpr at hg ⊢
        have el : mLk ρ = mLk σ := by
          funext a b
          unfold mLk
          rw [gi_fr (a := 40) (ci := 11) (k := 18) F2 (by decide) (by decide) (by decide), ga_fr (a := 48) F2 (by decide) (by decide)]
        rw [el, e59, iniR_again hg]
        exact hg
      rw [M_sale_keep F2.1 (by rw [gi_fr F2 (by decide) (by decide) (by decide)]; exact P.1.2) hnp (by rw [gi_fr F2 (by decide) (by decide) (by decide)]; exact s2) (by omega) hi (show u < 5 by omega) eM e59 (show f < 40 by omega) (by rw [ga_fr F2 (by decide) (by decide)]; exact hff) land size word till]
      -- the numbers of the sale
      have e44 : ga ρ 44 = ga σ 44 := ga_fr F2 (by decide) (by decide)
      have ep : mPrc ρ u size till = aPrc σ u size till := by
        unfold mPrc aPrc
        rw [ga_fr (a := 81) F2 (by decide) (by decide), (R.1 u (by omega)).1]
        rcases till_in hk hti with d | d
        · rw [d]
          rfl
        · rw [if_neg d, if_neg (fun e => d (by rw [e]; decide))]
      have ea : ∀ v, mAll ρ v = aAll σ v := by
        intro v
        unfold mAll aAll
        rw [gi_fr (a := 40) (ci := 11) (k := 59) F2 (by decide) (by decide) (by decide), R.2.1]
      have et : ∀ v : Int32, (if ga ρ 44 f = ga ρ 44 i then 0 else v / 10) = aTen σ i f v := by
        intro v
        unfold aTen
        rw [e44, (P.2.1.2.1 i hi).1.1, (P.2.1.2.1 f hf).1.1]
        by_cases d : ga σ 44 f = ga σ 44 i
        · rw [if_pos d, if_pos d.symm]
        · rw [if_neg d, if_neg (fun e => d e.symm)]
      rw [ep, ea, et, e44]
      obtain ⟨a, b, ha, hb, ea1, eb1⟩ : ∃ a b, a < 2 ^ 30 ∧ b < 2 ^ 30 ∧ aAll σ (aPrc σ u size till) - aTen σ i f (aAll σ (aPrc σ u size till)) = nI a ∧ aTen σ i f (aAll σ (aPrc σ u size till)) = nI b := by
        obtain ⟨r1, r2⟩ := R.1 u (by omega)
        obtain ⟨rr, -, hrr, er⟩ := inB_nat (lo := 0) (hi := 100000) (by decide) (by decide) r2
        obtain ⟨sh, -, hsh, es⟩ := inB_nat (lo := 0) (hi := 100) (by decide) (by decide) R.2.2
        have : ∃ v, v ≤ 200000000 ∧ aAll σ (aPrc σ u size till) = nI v := by
          unfold aAll aPrc
          rw [r1, er, ez, R.2.1, es]
          by_cases d : till = -1
          · rw [if_pos d]
            exact sale_num (m := 1) hrr hz (by omega) hsh
          · rw [if_neg d]
            exact sale_num (m := 2) hrr hz (by omega) hsh
        obtain ⟨v, hv, ev⟩ := this
        unfold aTen
        exact split_num hv ev
      have F3 : FM [4, 15, 21, 37, 59, 69, 70, 71, 72, 73, 74, 75, 76, 77, 78, 79, 80] [(36, 2), (40, 44), (40, 45)] [] σ (mSal5 (mSal7 ρ ns (nI i) land (nI u) size till (aPrc σ u size till)) ns (ga σ 44 f) (aTen σ i f (aAll σ (aPrc σ u size till))) (aAll σ (aPrc σ u size till) - aTen σ i f (aAll σ (aPrc σ u size till)))) := FM_p 11 (FM_j (FM_j (FM_j (FM_j (FM_j (FM_j (FM_j (FM_j (FM_j (FM_j (FM_j (FM_j (FM_w F2 (by decide) (by decide) (by decide)) (by decide)) (by decide)) (by decide)) (by decide)) (by decide)) (by decide)) (by decide)) (by decide)) (by decide)) (by decide)) (by decide)) (by decide)) (by decide)
      have F4 : FM [69, 70, 71, 72, 73, 74, 75, 76, 77, 78, 79, 80] [(40, 45)] [] ρ (mSal5 (mSal7 ρ ns (nI i) land (nI u) size till (aPrc σ u size till)) ns (ga σ 44 f) (aTen σ i f (aAll σ (aPrc σ u size till))) (aAll σ (aPrc σ u size till) - aTen σ i f (aAll σ (aPrc σ u size till)))) := FM_p 11 (FM_j (FM_j (FM_j (FM_j (FM_j (FM_j (FM_j (FM_j (FM_j (FM_j (FM_j (FM_j (FM_refl F2.1) (by decide)) (by decide)) (by decide)) (by decide)) (by decide)) (by decide)) (by decide)) (by decide)) (by decide)) (by decide)) (by decide)) (by decide)) (by decide)
      have o69 : ga (mSal5 (mSal7 ρ ns (nI i) land (nI u) size till (aPrc σ u size till)) ns (ga σ 44 f) (aTen σ i f (aAll σ (aPrc σ u size till))) (aAll σ (aPrc σ u size till) - aTen σ i f (aAll σ (aPrc σ u size till)))) 69 = upd (ga σ 69) ns (nI i) := by simp only [mSal5, mSal7, gi_put_ne, gi_put_k, gi_put_o, gi_set_ne, ga_put, ga_set_ne, ga_set_eq, gL_put, gL_set_ne, gL_set_eq, gq_put, gq_set_ne, gq_set_eq, fld_set_ne, fld_put_ne, fld_put_k, fld_put_same, Option.map_some, Option.elim_some, Nat.reduceEqDiff, not_false_eq_true]; rw [ga_fr F2 (by decide) (by decide)]
      have o70 : ga (mSal5 (mSal7 ρ ns (nI i) land (nI u) size till (aPrc σ u size till)) ns (ga σ 44 f) (aTen σ i f (aAll σ (aPrc σ u size till))) (aAll σ (aPrc σ u size till) - aTen σ i f (aAll σ (aPrc σ u size till)))) 70 = upd (ga σ 70) ns land := by simp only [mSal5, mSal7, gi_put_ne, gi_put_k, gi_put_o, gi_set_ne, ga_put, ga_set_ne, ga_set_eq, gL_put, gL_set_ne, gL_set_eq, gq_put, gq_set_ne, gq_set_eq, fld_set_ne, fld_put_ne, fld_put_k, fld_put_same, Option.map_some, Option.elim_some, Nat.reduceEqDiff, not_false_eq_true]; rw [ga_fr F2 (by decide) (by decide)]
      have o71 : ga (mSal5 (mSal7 ρ ns (nI i) land (nI u) size till (aPrc σ u size till)) ns (ga σ 44 f) (aTen σ i f (aAll σ (aPrc σ u size till))) (aAll σ (aPrc σ u size till) - aTen σ i f (aAll σ (aPrc σ u size till)))) 71 = upd (ga σ 71) ns (nI u) := by simp only [mSal5, mSal7, gi_put_ne, gi_put_k, gi_put_o, gi_set_ne, ga_put, ga_set_ne, ga_set_eq, gL_put, gL_set_ne, gL_set_eq, gq_put, gq_set_ne, gq_set_eq, fld_set_ne, fld_put_ne, fld_put_k, fld_put_same, Option.map_some, Option.elim_some, Nat.reduceEqDiff, not_false_eq_true]; rw [ga_fr F2 (by decide) (by decide)]
      have o72 : ga (mSal5 (mSal7 ρ ns (nI i) land (nI u) size till (aPrc σ u size till)) ns (ga σ 44 f) (aTen σ i f (aAll σ (aPrc σ u size till))) (aAll σ (aPrc σ u size till) - aTen σ i f (aAll σ (aPrc σ u size till)))) 72 = upd (ga σ 72) ns size := by simp only [mSal5, mSal7, gi_put_ne, gi_put_k, gi_put_o, gi_set_ne, ga_put, ga_set_ne, ga_set_eq, gL_put, gL_set_ne, gL_set_eq, gq_put, gq_set_ne, gq_set_eq, fld_set_ne, fld_put_ne, fld_put_k, fld_put_same, Option.map_some, Option.elim_some, Nat.reduceEqDiff, not_false_eq_true]; rw [ga_fr F2 (by decide) (by decide)]
      have o73 : ga (mSal5 (mSal7 ρ ns (nI i) land (nI u) size till (aPrc σ u size till)) ns (ga σ 44 f) (aTen σ i f (aAll σ (aPrc σ u size till))) (aAll σ (aPrc σ u size till) - aTen σ i f (aAll σ (aPrc σ u size till)))) 73 = upd (ga σ 73) ns (gi σ 0 10 11) := by simp only [mSal5, mSal7, gi_put_ne, gi_put_k, gi_put_o, gi_set_ne, ga_put, ga_set_ne, ga_set_eq, gL_put, gL_set_ne, gL_set_eq, gq_put, gq_set_ne, gq_set_eq, fld_set_ne, fld_put_ne, fld_put_k, fld_put_same, Option.map_some, Option.elim_some, Nat.reduceEqDiff, not_false_eq_true]; rw [ga_fr F2 (by decide) (by decide), gi_fr F2 (by decide) (by decide) (by decide), hk.1]
      have o74 : ga (mSal5 (mSal7 ρ ns (nI i) land (nI u) size till (aPrc σ u size till)) ns (ga σ 44 f) (aTen σ i f (aAll σ (aPrc σ u size till))) (aAll σ (aPrc σ u size till) - aTen σ i f (aAll σ (aPrc σ u size till)))) 74 = upd (ga σ 74) ns till := by simp only [mSal5, mSal7, gi_put_ne, gi_put_k, gi_put_o, gi_set_ne, ga_put, ga_set_ne, ga_set_eq, gL_put, gL_set_ne, gL_set_eq, gq_put, gq_set_ne, gq_set_eq, fld_set_ne, fld_put_ne, fld_put_k, fld_put_same, Option.map_some, Option.elim_some, Nat.reduceEqDiff, not_false_eq_true]; rw [ga_fr F2 (by decide) (by decide)]
      have o75 : ga (mSal5 (mSal7 ρ ns (nI i) land (nI u) size till (aPrc σ u size till)) ns (ga σ 44 f) (aTen σ i f (aAll σ (aPrc σ u size till))) (aAll σ (aPrc σ u size till) - aTen σ i f (aAll σ (aPrc σ u size till)))) 75 = upd (ga σ 75) ns (aPrc σ u size till) := by simp only [mSal5, mSal7, gi_put_ne, gi_put_k, gi_put_o, gi_set_ne, ga_put, ga_set_ne, ga_set_eq, gL_put, gL_set_ne, gL_set_eq, gq_put, gq_set_ne, gq_set_eq, fld_set_ne, fld_put_ne, fld_put_k, fld_put_same, Option.map_some, Option.elim_some, Nat.reduceEqDiff, not_false_eq_true]; rw [ga_fr F2 (by decide) (by decide)]
      have o76 : ga (mSal5 (mSal7 ρ ns (nI i) land (nI u) size till (aPrc σ u size till)) ns (ga σ 44 f) (aTen σ i f (aAll σ (aPrc σ u size till))) (aAll σ (aPrc σ u size till) - aTen σ i f (aAll σ (aPrc σ u size till)))) 76 = upd (ga σ 76) ns (aAll σ (aPrc σ u size till) - aTen σ i f (aAll σ (aPrc σ u size till))) := by simp only [mSal5, mSal7, gi_put_ne, gi_put_k, gi_put_o, gi_set_ne, ga_put, ga_set_ne, ga_set_eq, gL_put, gL_set_ne, gL_set_eq, gq_put, gq_set_ne, gq_set_eq, fld_set_ne, fld_put_ne, fld_put_k, fld_put_same, Option.map_some, Option.elim_some, Nat.reduceEqDiff, not_false_eq_true]; rw [ga_fr F2 (by decide) (by decide)]
      have o77 : ga (mSal5 (mSal7 ρ ns (nI i) land (nI u) size till (aPrc σ u size till)) ns (ga σ 44 f) (aTen σ i f (aAll σ (aPrc σ u size till))) (aAll σ (aPrc σ u size till) - aTen σ i f (aAll σ (aPrc σ u size till)))) 77 = upd (ga σ 77) ns (aTen σ i f (aAll σ (aPrc σ u size till))) := by simp only [mSal5, mSal7, gi_put_ne, gi_put_k, gi_put_o, gi_set_ne, ga_put, ga_set_ne, ga_set_eq, gL_put, gL_set_ne, gL_set_eq, gq_put, gq_set_ne, gq_set_eq, fld_set_ne, fld_put_ne, fld_put_k, fld_put_same, Option.map_some, Option.elim_some, Nat.reduceEqDiff, not_false_eq_true]; rw [ga_fr F2 (by decide) (by decide)]
      have o78 : ga (mSal5 (mSal7 ρ ns (nI i) land (nI u) size till (aPrc σ u size till)) ns (ga σ 44 f) (aTen σ i f (aAll σ (aPrc σ u size till))) (aAll σ (aPrc σ u size till) - aTen σ i f (aAll σ (aPrc σ u size till)))) 78 = upd (ga σ 78) ns (ga σ 44 f) := by simp only [mSal5, mSal7, gi_put_ne, gi_put_k, gi_put_o, gi_set_ne, ga_put, ga_set_ne, ga_set_eq, gL_put, gL_set_ne, gL_set_eq, gq_put, gq_set_ne, gq_set_eq, fld_set_ne, fld_put_ne, fld_put_k, fld_put_same, Option.map_some, Option.elim_some, Nat.reduceEqDiff, not_false_eq_true]; rw [ga_fr F2 (by decide) (by decide)]
      have o79 : ga (mSal5 (mSal7 ρ ns (nI i) land (nI u) size till (aPrc σ u size till)) ns (ga σ 44 f) (aTen σ i f (aAll σ (aPrc σ u size till))) (aAll σ (aPrc σ u size till) - aTen σ i f (aAll σ (aPrc σ u size till)))) 79 = upd (ga σ 79) ns 0 := by simp only [mSal5, mSal7, gi_put_ne, gi_put_k, gi_put_o, gi_set_ne, ga_put, ga_set_ne, ga_set_eq, gL_put, gL_set_ne, gL_set_eq, gq_put, gq_set_ne, gq_set_eq, fld_set_ne, fld_put_ne, fld_put_k, fld_put_same, Option.map_some, Option.elim_some, Nat.reduceEqDiff, not_false_eq_true]; rw [ga_fr F2 (by decide) (by decide)]
      have o80 : ga (mSal5 (mSal7 ρ ns (nI i) land (nI u) size till (aPrc σ u size till)) ns (ga σ 44 f) (aTen σ i f (aAll σ (aPrc σ u size till))) (aAll σ (aPrc σ u size till) - aTen σ i f (aAll σ (aPrc σ u size till)))) 80 = upd (ga σ 80) ns (-1) := by simp only [mSal5, mSal7, gi_put_ne, gi_put_k, gi_put_o, gi_set_ne, ga_put, ga_set_ne, ga_set_eq, gL_put, gL_set_ne, gL_set_eq, gq_put, gq_set_ne, gq_set_eq, fld_set_ne, fld_put_ne, fld_put_k, fld_put_same, Option.map_some, Option.elim_some, Nat.reduceEqDiff, not_false_eq_true]; rw [ga_fr F2 (by decide) (by decide)]
      have o45 : gi (mSal5 (mSal7 ρ ns (nI i) land (nI u) size till (aPrc σ u size till)) ns (ga σ 44 f) (aTen σ i f (aAll σ (aPrc σ u size till))) (aAll σ (aPrc σ u size till) - aTen σ i f (aAll σ (aPrc σ u size till)))) 40 11 45 = nI (ns + 1) := by simp only [mSal5, mSal7, gi_put_ne, gi_put_k, gi_put_o, gi_set_ne, ga_put, ga_set_ne, ga_set_eq, gL_put, gL_set_ne, gL_set_eq, gq_put, gq_set_ne, gq_set_eq, fld_set_ne, fld_put_ne, fld_put_k, fld_put_same, Option.map_some, Option.elim_some, Nat.reduceEqDiff, not_false_eq_true, i_40_45 F2.1]
      have y1 : (mSal5 (mSal7 ρ ns (nI i) land (nI u) size till (aPrc σ u size till)) ns (ga σ 44 f) (aTen σ i f (aAll σ (aPrc σ u size till))) (aAll σ (aPrc σ u size till) - aTen σ i f (aAll σ (aPrc σ u size till)))).1 = σ.1 + 1 := by simp only [mSal5, mSal7, set_1, put_1]; exact k1
      have y2 : (mSal5 (mSal7 ρ ns (nI i) land (nI u) size till (aPrc σ u size till)) ns (ga σ 44 f) (aTen σ i f (aAll σ (aPrc σ u size till))) (aAll σ (aPrc σ u size till) - aTen σ i f (aAll σ (aPrc σ u size till)))).2.1 = σ.2.1 + 13 := by simp only [mSal5, mSal7, set_2, put_2]; exact k2
      generalize mSal5 (mSal7 ρ ns (nI i) land (nI u) size till (aPrc σ u size till)) ns (ga σ 44 f) (aTen σ i f (aAll σ (aPrc σ u size till))) (aAll σ (aPrc σ u size till) - aTen σ i f (aAll σ (aPrc σ u size till))) = υ at F3 F4 o69 o70 o71 o72 o73 o74 o75 o76 o77 o78 o79 o80 o45 y1 y2
      have o44 : ga υ 44 = ga σ 44 := ga_fr F3 (by decide) (by decide)
      refine h2 _ _ ⟨⟨F3.1, R30_fr F3 (by decide) hR, HI_fr F3 hH⟩, Ick_fr F3 (by decide) hk, n, nt, p, np, nc, nl, ne, t, ns + 1, q, fp, fw, Iwd_fr F3 (by decide) W, Ipc_fr F3 (by decide) P, Icp_fr F3 (by decide) C, Ilv_fr F3 (by decide) Lv, Iem_fr F3 (by decide) E, Itp_fr F3 (by decide) T, Ift_fr F3 (by decide) Fa, Irt_fr F3 (by decide) R, TXS_fr F3 (by decide) (fun B s hB => by simp at hB) X, ?_, Ipr_fr F3 (by decide) U⟩ ⟨by omega, by omega⟩
      refine ⟨⟨by rw [gi_fr F4 (by decide) (by decide) (by decide)]; exact e36, o45⟩, by omega, fun s => if s = ns then σ.1 else A s, fun s hs => ?_, fun s hs => ?_, fun s s' hs hs' e => ?_, fun s hs => ?_⟩
      · dsimp only
        by_cases e : s = ns
        · subst e
          refine ⟨?_, ?_, ?_, ?_⟩
          · rw [gq_fr F4 (by decide) (by decide), e37, va_up_self, if_pos rfl]
          · rw [if_pos rfl, F4.2.2.2.1 σ.1 hN (by omega) (by simp), eN]
            simp only [slL, vS, o69, o70, o71, o72, o73, o74, o75, o76, o77, o78, o79, o80, o44, upd_eq, nI_clamp (show i < 2 ^ 31 by omega)]
            simp only [aSalL, (P.2.1.2.1 i hi).1.1, (P.2.1.2.1 f hf).1.1]
          · rw [if_pos rfl]
            exact hN
          · rw [if_pos rfl]
            exact hT
        · obtain ⟨a1, a2, a3, a4⟩ := hSal s (by omega)
          refine ⟨?_, ?_, ?_, ?_⟩
          · rw [gq_fr F4 (by decide) (by decide), e37, va_up_ne _ _ e, if_neg e]
            exact a1
          · rw [if_neg e, F3.2.2.2.1 _ a3 (hA s (by omega)) (by simp), a2]
            simp only [slL, vS, o69, o70, o71, o72, o73, o74, o75, o76, o77, o78, o79, o80, o44, upd_ne e]
          · rw [if_neg e]
            exact a3
          · rw [if_neg e]
            exact a4
      · dsimp only
        by_cases e : s = ns
        · rw [if_pos e]
          omega
        · rw [if_neg e]
          have := hA s (by omega)
          omega
      · by_cases e1 : s = ns <;> by_cases e2 : s' = ns
        · omega
        · dsimp only at e
          rw [if_pos e1, if_neg e2] at e
          have := hA s' (by omega)
          omega
        · dsimp only at e
          rw [if_neg e1, if_pos e2] at e
          have := hA s (by omega)
          omega
        · dsimp only at e
          rw [if_neg e1, if_neg e2] at e
          exact hinj s s' (by omega) (by omega) e
      · rw [o69, o74, o80, o79, o76, o77]
        by_cases e : s = ns
        · subst e
          rw [upd_eq, upd_eq, upd_eq, upd_eq, upd_eq, upd_eq]
          exact ⟨⟨i, hi, rfl⟩, till_in hk hti, Or.inl rfl, Or.inl rfl, a, b, ha, hb, ea1, eb1⟩
        · rw [upd_ne e, upd_ne e, upd_ne e, upd_ne e, upd_ne e, upd_ne e]
          exact hr s (by omega)
    · have F : FM [4, 15, 21, 59] [(40, 44)] [] σ τ := FM_s (FM_refl hS) hs (by decide)
      obtain ⟨u1, u2, u3⟩ := use_fr (land := land) (use := nI u) (size := size) (word := word) F (by decide) (nI i) till
      have W1 := Iwd_fr F (by decide) W
      have P1 := Ipc_fr F (by decide) P
      have Lv1 := Ilv_fr F (by decide) Lv
      have E1 := Iem_fr F (by decide) E
      have S1 := Isl_fr (np2 := np) F (by decide) (Nat.le_refl _) hnp (fun i _ => by rw [ga_fr F (by decide) (by decide)]) S
      rw [h1 _ _ F.1 (HI_fr F hH), M_sale_go F.1 (MWy_of W1 P1 Lv1 E1 S1) hi (by rw [ga_fr F (by decide) (by decide)]; exact h61) hX.1 (q3 τ hs) land (nI u) size word till (q6 τ hs) (u1.trans hu) (u2.trans hbe) (u3.trans hti) c.2, if_neg (by rw [← (q7 τ hs).1]; exact h0)]
      have F2 := mWhyS_fr (g := g) F (mWhy τ n ne nl k ns i land (nI u) size word isO g)
      have m := mWhyS_n (τ := τ) (g := g) (mWhy τ n ne nl k ns i land (nI u) size word isO g)
      exact h2 _ _ (INV_scr F2 I) ⟨by rw [m.1, hs.2.1]; omega, by rw [m.2, hs.2.2.1]; omega⟩
  · rw [A_sale_no hS S.1.1 S.2.1 x land use size word till c, h1 _ _ hS hH, M_sale_no hS S.1.2 S.2.1 x land use size word till (by rw [← aUse_eq P, ← aBes_eq W, ← till_eq hk]; exact c)]
    exact h2 _ _ I (Gr_refl σ)
end K9
