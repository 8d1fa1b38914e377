/-! THE CALLS ON BOTH SIDES, 8: a printing -/
section K8
variable {L : Nat} {xs : Nat → Int32} {σ τ : am_H} {np ns : Nat}
theorem led_eq {c : Int64} {g : Nat → Int32} {land use size : Int32} (S : Isl σ np ns) (hnp : np ≤ 40) (hc : ∀ j, j < 64 → bitL c j = (decide (j < np) && !decide (g j = 0))) : fstR (forB (vS σ) c land use size) 0 ns = fstR (mLedOk σ g land use size) 0 ns := by
  refine fstR_ext ns 0 (fun s _ hs => ?_)
  obtain ⟨-, h60, A, -, -, -, hr⟩ := S
  obtain ⟨⟨x, hx, ex⟩, -, hun, -⟩ := hr s (by omega)
  unfold forB mLedOk
  simp only [vS]
  rw [ex, hld_nI _ (by omega), nI_clamp (by omega), hc x (by omega), decide_eq_true hx, Bool.true_and]
  have e : decide (ga σ 80 s = -1) = decide (ga σ 80 s < 0) := by
    rcases hun with hun | hun
    · rw [hun]
      decide
    · have : ¬ ga σ 80 s = -1 := fun z => hun (by rw [z]; decide)
      rw [decide_eq_false this, decide_eq_false hun]
  rw [e]
  cases decide (ga σ 79 s = 0) <;> cases decide (ga σ 80 s < 0) <;> cases decide (ga σ 70 s = land) <;> cases decide (ga σ 71 s = use) <;> cases decide (ga σ 72 s < size) <;> cases decide (g x = 0) <;> rfl
theorem cnt_upd {f : Nat → Int32} {q : Nat} {v : Int32} : cntF (fun i => decide (upd f q v i < 0)) (q + 1) = cntF (fun i => decide (f i < 0)) q + (if v < 0 then 1 else 0) := by
  simp only [cntF]
  congr 1
  · exact cntF_ext q (fun i hi => by rw [upd_ne (by omega)])
  · by_cases d : v < 0 <;> simp [upd_eq, d]
theorem led_fr {W : List Nat} {V : List (Nat × Nat)} {Y : List Nat} {g : Nat → Int32} {land use size : Int32} (F : FM W V Y σ τ) (h : ∀ x ∈ [69, 70, 71, 72, 79, 80], ¬ x ∈ W) : mLedOk τ g land use size = mLedOk σ g land use size := by
  funext s
  unfold mLedOk
  rw [ga_fr (a := 69) F (by decide) (h _ (by decide)), ga_fr (a := 70) F (by decide) (h _ (by decide)), ga_fr (a := 71) F (by decide) (h _ (by decide)), ga_fr (a := 72) F (by decide) (h _ (by decide)), ga_fr (a := 79) F (by decide) (h _ (by decide)), ga_fr (a := 80) F (by decide) (h _ (by decide))]
theorem c_print (I : INV L xs σ) (x land use size : Int32) : CA L xs .int σ (fun K => ax k_A_print 0 [some (.ref 0), some (.int x), some (.int land), some (.int use), some (.int size)] [] σ K) (fun σ1 K => ax k_M_print 0 [some (.ref 40), some (.int x), some (.int land), some (.int use), some (.int size), none, none] [] σ1 K) := by
  intro K K2 h1 h2
  dsimp only at h1
  have I' := I
  obtain ⟨⟨hS, hR, hH⟩, hk, n, nt, p, np, nc, nl, ne, t, ns, q, fp, fw, W, P, C, Lv, E, T, Fa, R, X, S, U⟩ := I'
  have hnp := P.2.1.1
  have hq := U.1.2.2
  show ax k_A_print 0 _ [] σ K
  by_cases c : aUse σ x land use size = true ∧ ¬ q = 60
  · have hu : mUse σ x land use size = true := by rw [← aUse_eq P]; exact c.1
    obtain ⟨i, hi, rfl⟩ := mUse_1 P.1.2 hnp hu
    obtain ⟨N, g, hg, hgi, hgb⟩ := set_eq P.2.1 P.2.2 hi
    have eo := led_eq (land := land) (use := use) (size := size) S hnp hgb
    have S' := S
    obtain ⟨⟨s1, s2⟩, h60, A, hSal, hA, hinj, hr⟩ := S'
    have hsp : ∀ s, s < ns → ∃ q, q < 40 ∧ ga σ 69 s = nI q := fun s hs => by obtain ⟨⟨a, ha, e⟩, -⟩ := hr s hs; exact ⟨a, by omega, e⟩
    rw [A_print hS P.1.1 hnp s1 h60 hSal hi U.1.1 (by omega) U.2.2 land use size c.1 rfl, eo]
    cases eF : fstR (mLedOk σ g land use size) 0 ns with
    | none =>
      have F : FM [15, 38, 59, 82] [(36, 3), (36, 4), (40, 60)] [] σ (aPrt σ (aChn σ (setB σ np i).2.1) A q (cntF (fun i => decide (ga σ 82 i < 0)) q) none) := FM_p 2 (FM_p 2 (FM_j (FM_j (FM_refl hS) (by decide)) (by decide)) (by decide)) (by decide)
      have Fm : FM [15, 38] [(36, 3), (36, 4)] [] σ (aPrt σ (aChn σ (setB σ np i).2.1) A q (cntF (fun i => decide (ga σ 82 i < 0)) q) none) := FM_p 2 (FM_p 2 (FM_j (FM_j (FM_refl hS) (by decide)) (by decide)) (by decide)) (by decide)
      obtain ⟨u1, -, -⟩ := use_fr (land := land) (use := use) (size := size) (word := 0) Fm (by decide) (nI i) 0
      rw [h1 _ _ F.1 (HI_fr F hH), M_print F.1 (by rw [gi_fr Fm (by decide) (by decide) (by decide)]; exact P.1.2) hnp (by rw [gi_fr Fm (by decide) (by decide) (by decide)]; exact s2) h60 (by rw [ga_fr Fm (by decide) (by decide)]; exact hsp) (by rw [gi_fr Fm (by decide) (by decide) (by decide)]; exact U.1.2.1) (by omega) (by rw [set_fr Fm (by decide)]; exact hg) land use size (u1.trans hu), led_fr Fm (by decide), eF]
      have F2 : FM [15, 38, 59, 82] [(36, 3), (36, 4), (40, 60)] [] σ (mPrt (mSet (aPrt σ (aChn σ (setB σ np i).2.1) A q (cntF (fun i => decide (ga σ 82 i < 0)) q) none) g) q none) := FM_p 11 (FM_j (FM_j F (by decide)) (by decide)) (by decide)
      refine h2 _ _ ⟨⟨F2.1, R30_fr F2 (by decide) hR, HI_fr F2 hH⟩, Ick_fr F2 (by decide) hk, n, nt, p, np, nc, nl, ne, t, ns, q + 1, fp, fw, Iwd_fr F2 (by decide) W, Ipc_fr F2 (by decide) P, Icp_fr F2 (by decide) C, Ilv_fr F2 (by decide) Lv, Iem_fr F2 (by decide) E, Itp_fr F2 (by decide) T, Ift_fr F2 (by decide) Fa, Irt_fr F2 (by decide) R, TXS_fr F2 (by decide) (fun B s hB => by simp at hB) X, Isl_fr F2 (by decide) (Nat.le_refl _) P.2.1.1 (fun i _ => by rw [ga_fr F2 (by decide) (by decide)]) S, ?_⟩ (by constructor <;> simp only [mPrt, mSet, aPrt, aChn, Option.elim_none, put_1, put_2, set_1, set_2] <;> omega)
      simp only [Ipr, mPrt, mSet, aPrt, aChn, Option.elim_none, gi_put_ne, gi_put_k, gi_put_o, gi_set_ne, ga_put, ga_set_ne, ga_set_eq, gL_put, gL_set_ne, gL_set_eq, gq_put, gq_set_ne, gq_set_eq, fld_set_ne, fld_put_ne, fld_put_k, fld_put_same, Option.map_some, Option.elim_some, Nat.reduceEqDiff, not_false_eq_true, i_36_3 hS, i_36_4 hS, i_40_60 hS]
      refine ⟨⟨by trivial, by trivial, by omega⟩, fun j hj => ?_, ?_⟩
      · by_cases e : j = q
        · rw [e, upd_eq, upd_eq]
        · rw [upd_ne e, upd_ne e]
          exact U.2.1 j (by omega)
      · rw [cnt_upd]
        rfl
    | some s =>
      have hs := (fstR_in _ _ _ _ eF).2.1
      have hs : s < ns := by omega
      obtain ⟨a1, a2, a3, a4⟩ := hSal s hs
      have F : FM [15, 38, 59, 80, 82] [(36, 3), (40, 60)] [A s] σ (aPrt σ (aChn σ (setB σ np i).2.1) A q (cntF (fun i => decide (ga σ 82 i < 0)) q) (some s)) := FM_p 2 (FM_x (FM_j (FM_j (FM_refl hS) (by decide)) (by decide)) (List.mem_singleton.mpr rfl) a3 a4) (by decide)
      have Fm : FM [15, 38] [(36, 3)] [A s] σ (aPrt σ (aChn σ (setB σ np i).2.1) A q (cntF (fun i => decide (ga σ 82 i < 0)) q) (some s)) := FM_p 2 (FM_x (FM_j (FM_j (FM_refl hS) (by decide)) (by decide)) (List.mem_singleton.mpr rfl) a3 a4) (by decide)
      obtain ⟨u1, -, -⟩ := use_fr (land := land) (use := use) (size := size) (word := 0) Fm (by decide) (nI i) 0
      rw [h1 _ _ F.1 (HI_fr F hH), M_print F.1 (by rw [gi_fr Fm (by decide) (by decide) (by decide)]; exact P.1.2) hnp (by rw [gi_fr Fm (by decide) (by decide) (by decide)]; exact s2) h60 (by rw [ga_fr Fm (by decide) (by decide)]; exact hsp) (by rw [gi_fr Fm (by decide) (by decide) (by decide)]; exact U.1.2.1) (by omega) (by rw [set_fr Fm (by decide)]; exact hg) land use size (u1.trans hu), led_fr Fm (by decide), eF]
      have F2 : FM [15, 38, 59, 80, 82] [(36, 3), (40, 60)] [A s] σ (mPrt (mSet (aPrt σ (aChn σ (setB σ np i).2.1) A q (cntF (fun i => decide (ga σ 82 i < 0)) q) (some s)) g) q (some s)) := FM_p 11 (FM_j (FM_j (FM_j F (by decide)) (by decide)) (by decide)) (by decide)
      have m1 : (mPrt (mSet (aPrt σ (aChn σ (setB σ np i).2.1) A q (cntF (fun i => decide (ga σ 82 i < 0)) q) (some s)) g) q (some s)).1 = σ.1 := by simp only [mPrt, mSet, aPrt, aChn, Option.elim_some, set_1, put_1]
      have g80 : ga (mPrt (mSet (aPrt σ (aChn σ (setB σ np i).2.1) A q (cntF (fun i => decide (ga σ 82 i < 0)) q) (some s)) g) q (some s)) 80 = upd (ga σ 80) s (nI q) := by simp only [mPrt, mSet, aPrt, aChn, gi_put_ne, gi_put_k, gi_put_o, gi_set_ne, ga_put, ga_set_ne, ga_set_eq, gL_put, gL_set_ne, gL_set_eq, gq_put, gq_set_ne, gq_set_eq, fld_set_ne, fld_put_ne, fld_put_k, fld_put_same, Option.map_some, Option.elim_some, Nat.reduceEqDiff, not_false_eq_true]
      have gA : am_get (mPrt (mSet (aPrt σ (aChn σ (setB σ np i).2.1) A q (cntF (fun i => decide (ga σ 82 i < 0)) q) (some s)) g) q (some s)) (A s) = some (am_ob 5 ((slL (vS σ) s).set 12 (.int (nI q)))) := by
        simp only [mPrt, mSet, aPrt, aChn, Option.elim_some]
        rw [get_put_ne (by omega), get_set_ne (by omega), get_set_ne (by omega), get_set_ne (by omega), get_put_ne (by omega)]
        refine get_put_ob ?_
        rw [get_set_ne (by omega), get_set_ne (by omega)]
        exact a2
      refine h2 _ _ ⟨⟨F2.1, R30_fr F2 (by decide) hR, HI_fr F2 hH⟩, Ick_fr F2 (by decide) hk, n, nt, p, np, nc, nl, ne, t, ns, q + 1, fp, fw, Iwd_fr F2 (by decide) W, Ipc_fr F2 (by decide) P, Icp_fr F2 (by decide) C, Ilv_fr F2 (by decide) Lv, Iem_fr F2 (by decide) E, Itp_fr F2 (by decide) T, Ift_fr F2 (by decide) Fa, Irt_fr F2 (by decide) R, TXS_fr F2 (by decide) (fun B r hB hr => no_term a2 B r hB hr) X, ?_, ?_⟩ (by constructor <;> simp only [mPrt, mSet, aPrt, aChn, Option.elim_some, put_1, put_2, set_1, set_2] <;> omega)
      · generalize mPrt (mSet (aPrt σ (aChn σ (setB σ np i).2.1) A q (cntF (fun i => decide (ga σ 82 i < 0)) q) (some s)) g) q (some s) = τ at F2 m1 g80 gA
        have er : ∀ a, a ∈ [44, 69, 70, 71, 72, 73, 74, 75, 76, 77, 78, 79] → ga τ a = ga σ a := fun a ha => ga_fr F2 (by revert a; decide) (by revert a; decide)
        have ev : ∀ s' k, ¬ k = 12 → vS τ s' k = vS σ s' k := by
          intro s' k hk
          unfold vS
          split <;> first | (exact absurd rfl hk) | rfl | simp only [er 44 (by decide), er 69 (by decide), er 70 (by decide), er 71 (by decide), er 72 (by decide), er 73 (by decide), er 74 (by decide), er 75 (by decide), er 76 (by decide), er 77 (by decide), er 78 (by decide), er 79 (by decide)]
        have ev12 : ∀ s', vS τ s' 12 = upd (ga σ 80) s (nI q) s' := fun s' => by show ga τ 80 s' = _; rw [g80]
        refine ⟨⟨by rw [gi_fr F2 (by decide) (by decide) (by decide)]; exact s1, by rw [gi_fr F2 (by decide) (by decide) (by decide)]; exact s2⟩, h60, A, SLS_mod hSal hA hinj hs gA (fun B hb1 hb2 hb3 => F2.2.2.2.1 B hb1 hb2 (by rw [List.mem_singleton]; exact hb3)) (gq_fr F2 (by decide) (by decide)) (fun s' hs' hne => ?_) ?_, fun s' hs' => by rw [m1]; exact hA s' hs', hinj, fun s' hs' => ?_⟩
        · have e12 : vS τ s' 12 = vS σ s' 12 := by rw [ev12, upd_ne hne]; rfl
          simp only [slL, ev s' 0 (by decide), ev s' 1 (by decide), ev s' 2 (by decide), ev s' 3 (by decide), ev s' 4 (by decide), ev s' 5 (by decide), ev s' 6 (by decide), ev s' 7 (by decide), ev s' 8 (by decide), ev s' 9 (by decide), ev s' 10 (by decide), ev s' 11 (by decide), e12]
        · have e12 : vS τ s 12 = nI q := by rw [ev12, upd_eq]
          simp only [slL, ev s 0 (by decide), ev s 1 (by decide), ev s 2 (by decide), ev s 3 (by decide), ev s 4 (by decide), ev s 5 (by decide), ev s 6 (by decide), ev s 7 (by decide), ev s 8 (by decide), ev s 9 (by decide), ev s 10 (by decide), ev s 11 (by decide), e12]
          rfl
        · obtain ⟨r1, r2, r3, r4, r5⟩ := hr s' hs'
          rw [er 69 (by decide), er 74 (by decide), er 79 (by decide), er 76 (by decide), er 77 (by decide), g80]
          refine ⟨r1, r2, ?_, r4, r5⟩
          by_cases e : s' = s
          · rw [e, upd_eq]
            exact Or.inr (nI_pos (by omega))
          · rw [upd_ne e]
            exact r3
      · have n36 : ¬ 36 = A s := by omega
        have n40 : ¬ 40 = A s := by omega
        simp only [Ipr, mPrt, mSet, aPrt, aChn, Option.elim_some, gi_put_ne, gi_put_k, gi_put_o, gi_set_ne, ga_put, ga_set_ne, ga_set_eq, gL_put, gL_set_ne, gL_set_eq, gq_put, gq_set_ne, gq_set_eq, fld_set_ne, fld_put_ne, fld_put_k, fld_put_same, Option.map_some, Option.elim_some, Nat.reduceEqDiff, not_false_eq_true, gi_put_ne n36, gi_put_ne n40, fld_put_ne n36, fld_put_ne n40, i_36_3 hS, i_36_4 hS, i_40_60 hS]
        refine ⟨⟨by trivial, by trivial, by omega⟩, fun j hj => ?_, ?_⟩
        · by_cases e : j = q
          · rw [e, upd_eq, upd_eq]
          · rw [upd_ne e, upd_ne e]
            exact U.2.1 j (by omega)
        · rw [cnt_upd, if_neg (nI_pos (by omega))]
          exact U.2.2
  · rw [A_print_no hS U.1.1 hq x land use size c, h1 _ _ hS hH, M_print_no hS U.1.2.1 hq x land use size (by rw [← aUse_eq P]; exact c)]
    exact h2 _ _ I (Gr_refl σ)
end K8
