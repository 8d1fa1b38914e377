/-! THE CALLS ON BOTH SIDES, 4: leaves, embargoes, the tape, rates -/
theorem bitI_and (a b : Int32) (j : Nat) : bitI (a &&& b) j = (bitI a j && bitI b j) := by
  unfold bitI
  rw [Int32.toBitVec_and, BitVec.getLsbD_and]
theorem bitI_ext {a b : Int32} (h : ∀ j, j < 32 → bitI a j = bitI b j) : a = b := by
  apply Int32.toBitVec_inj.mp
  apply BitVec.eq_of_getLsbD_eq
  exact fun i hi => h i hi
theorem sru32 {s j : Nat} (hs : s < 32) (g : Int32) (hj : s + j < 32) : bitI ((g.toUInt32 >>> ((nI s).toUInt32 &&& Int32.toUInt32 31)).toInt32) j = bitI g (s + j) := by
  have sh : ∀ s : Fin 32, (((nI s.1).toUInt32 &&& Int32.toUInt32 31).toBitVec % 32#32).toNat = s.1 := by decide +kernel
  show (g.toBitVec >>> (((nI s).toUInt32 &&& Int32.toUInt32 31).toBitVec % 32#32)).getLsbD j = g.toBitVec.getLsbD (s + j)
  rw [BitVec.ushiftRight_eq', sh ⟨s, hs⟩, BitVec.getLsbD_ushiftRight]
theorem srs32 {s j : Nat} (hs : s < 32) (g : Int32) (hj : s + j < 32) : bitI (g >>> (nI s &&& 31)) j = bitI g (s + j) := by
  unfold bitI
  rw [Int32.toBitVec_shiftRight]
  have e := sh32 ⟨s, hs⟩
  show BitVec.getLsbD (g.toBitVec.sshiftRight' ((nI s &&& 31).toBitVec.smod 32)) j = _
  rw [e, BitVec.getLsbD_sshiftRight']
  have e1 : (BitVec.ofNat 32 s).toNat = s := by simp; omega
  rw [e1]
  simp [hj]
  omega
theorem byt_eq {s : Nat} (hs : s ≤ 24) (v : Int32) : aByt v (nI s) = byt v (nI s) := by
  unfold aByt byt
  apply bitI_ext
  intro j hj
  rw [bitI_and, bitI_and]
  have b255 : ∀ j : Fin 32, bitI 255 j.1 = decide (j.1 < 8) := by decide +kernel
  rw [b255 ⟨j, hj⟩]
  by_cases c : j < 8
  · rw [sru32 (by omega) v (by omega), srs32 (by omega) v (by omega)]
  · simp [c]
theorem byt_pos (v k : Int32) : ¬ byt v k < 0 := by
  unfold byt
  generalize (v >>> (k &&& 31)) = y
  have e : y &&& 255 = nI (y.toBitVec.toNat % 256) := by
    apply Int32.toBitVec_inj.mp
    apply BitVec.eq_of_toNat_eq
    show (y &&& 255).toBitVec.toNat = (BitVec.ofNat 32 _).toNat
    rw [BitVec.toNat_ofNat, Int32.toBitVec_and, BitVec.toNat_and]
    have e : (255 : Int32).toBitVec.toNat = 2 ^ 8 - 1 := by decide
    rw [e, Nat.and_two_pow_sub_one_eq_mod]
    omega
  rw [e]
  exact nI_pos (by omega)
/-- the tapes are alike up to t -/
def TP (t : Nat) (f g : Nat → Int32) : Prop := ∀ j, j < t → f j = g j ∧ ¬ g j < 0
theorem TPu {t : Nat} {f g : Nat → Int32} {x y : Int32} (h : TP t f g) (e : x = y) (hy : ¬ y < 0) : TP (t + 1) (upd f t x) (upd g t y) := by
  intro j hj
  by_cases c : j = t
  · subst c
    rw [upd_eq, upd_eq]
    exact ⟨e, hy⟩
  · rw [upd_ne c, upd_ne c]
    exact h j (by omega)
theorem TP4 {t : Nat} {f g : Nat → Int32} (h : TP t f g) (v : Int32) : TP (t + 4) (aUp4 f t v) (upd4 g t v) :=
  TPu (TPu (TPu (TPu h (byt_eq (s := 24) (by decide) v) (byt_pos _ _)) (byt_eq (s := 16) (by decide) v) (byt_pos _ _)) (byt_eq (s := 8) (by decide) v) (byt_pos _ _)) (byt_eq (s := 0) (by decide) v) (byt_pos _ _)
section K4
variable {L : Nat} {xs : Nat → Int32} {σ τ : am_H}
theorem c_leave (I : INV L xs σ) (x : Int32) (b : Bool) : CA L xs .int σ (fun K => ax k_A_leave 0 [some (.ref 0), some (.int x), some (.int (bi b))] [] σ K) (fun σ1 K => ax k_M_leave 0 [some (.ref 40), some (.int x), some (.int (bi b))] [] σ1 K) := by
  intro K K2 h1 h2
  dsimp only at h1
  have I' := I
  obtain ⟨⟨hS, hR, hH⟩, hk, n, nt, p, np, nc, nl, ne, t, ns, q, fp, fw, W, P, C, Lv, E, T, Fa, R, X, S, U⟩ := I'
  have hn := Lv.2.1.1
  show ax k_A_leave 0 _ [] σ K
  rw [A_leave hS Lv.1.1 hn]
  by_cases c : ltB x 16 = true ∧ ¬ nl = 100
  · have F : FM [23, 24, 25, 53, 54, 55] [(22, 3), (40, 19)] [] σ (aTell σ 22 23 24 25 100 nl (gi σ 0 10 11) x (bi b)) := FM_p 3 (FM_j (FM_j (FM_j (FM_refl hS) (by decide)) (by decide)) (by decide)) (by decide)
    have F2 : FM [23, 24, 25, 53, 54, 55] [(22, 3), (40, 19)] [] σ (mLeave (aTell σ 22 23 24 25 100 nl (gi σ 0 10 11) x (bi b)) nl x b) := FM_p 11 (FM_j (FM_j (FM_j F (by decide)) (by decide)) (by decide)) (by decide)
    have e : gi (aTell σ 22 23 24 25 100 nl (gi σ 0 10 11) x (bi b)) 40 11 19 = nI nl := by simp only [aTell, gi_put_ne, gi_put_k, gi_put_o, gi_set_ne, ga_put, ga_set_ne, ga_set_eq, gL_put, gL_set_ne, gL_set_eq, gq_put, gq_set_ne, gq_set_eq, fld_set_ne, fld_put_ne, fld_put_k, fld_put_same, Option.map_some, Option.elim_some, Nat.reduceEqDiff, not_false_eq_true]; exact Lv.1.2
    rw [if_pos c, h1 _ _ F.1 (HI_fr F hH), M_leave F.1 e hn, if_pos (by rw [← ltB_16]; exact c)]
    refine h2 _ _ ⟨⟨F2.1, R30_fr F2 (by decide) hR, HI_fr F2 hH⟩, Ick_fr F2 (by decide) hk, n, nt, p, np, nc, nl + 1, ne, t, ns, q, fp, fw, Iwd_fr F2 (by decide) W, Ipc_fr F2 (by decide) P, Icp_fr F2 (by decide) C, ?_, Iem_fr F2 (by decide) E, Itp_fr F2 (by decide) T, Ift_fr F2 (by decide) Fa, Irt_fr F2 (by decide) R, TXS_fr F2 (by decide) (fun B s hB => by simp at hB) X, Isl_fr F2 (by decide) (Nat.le_refl _) P.2.1.1 (fun i _ => by rw [ga_fr F2 (by decide) (by decide)]) S, Ipr_fr F2 (by decide) U⟩ (by constructor <;> simp only [mLeave, aTell, put_1, put_2, set_1, set_2] <;> omega)
    simp only [Ilv, mLeave, aTell, gi_put_ne, gi_put_k, gi_put_o, gi_set_ne, ga_put, ga_set_ne, ga_set_eq, gL_put, gL_set_ne, gL_set_eq, gq_put, gq_set_ne, gq_set_eq, fld_set_ne, fld_put_ne, fld_put_k, fld_put_same, Option.map_some, Option.elim_some, Nat.reduceEqDiff, not_false_eq_true, i_40_19 hS, i_22_3 hS, hk.1]
    exact ⟨⟨(by trivial), (by trivial)⟩, BL_new Lv.2.1 (by omega) _ _ _, Z01_upd Lv.2.2⟩
  · rw [if_neg c, h1 _ _ hS hH, M_leave hS Lv.1.2 hn, if_neg (by rw [← ltB_16]; exact c)]
    exact h2 _ _ I (Gr_refl σ)
theorem c_embargo (I : INV L xs σ) (x m : Int32) : CA L xs .int σ (fun K => ax k_A_embargo 0 [some (.ref 0), some (.int x), some (.int m)] [] σ K) (fun σ1 K => ax k_M_embargo 0 [some (.ref 40), some (.int x), some (.int m)] [] σ1 K) := by
  intro K K2 h1 h2
  dsimp only at h1
  have I' := I
  obtain ⟨⟨hS, hR, hH⟩, hk, n, nt, p, np, nc, nl, ne, t, ns, q, fp, fw, W, P, C, Lv, E, T, Fa, R, X, S, U⟩ := I'
  have hn := E.2.1
  have hnp := P.2.1.1
  show ax k_A_embargo 0 _ [] σ K
  rw [A_embargo hS E.1.1 hn, P.1.1]
  by_cases c : (ltB x (nI np) = true ∧ inB m 0 100000 = true) ∧ ¬ ne = 100
  · have F : FM [27, 28, 29, 56, 57, 58] [(26, 3), (40, 23)] [] σ (aTell σ 26 27 28 29 100 ne (gi σ 0 10 11) x m) := FM_p 3 (FM_j (FM_j (FM_j (FM_refl hS) (by decide)) (by decide)) (by decide)) (by decide)
    have F2 : FM [27, 28, 29, 56, 57, 58] [(26, 3), (40, 23)] [] σ (mEmb (aTell σ 26 27 28 29 100 ne (gi σ 0 10 11) x m) ne x m) := FM_p 11 (FM_j (FM_j (FM_j F (by decide)) (by decide)) (by decide)) (by decide)
    have e : gi (aTell σ 26 27 28 29 100 ne (gi σ 0 10 11) x m) 40 11 23 = nI ne := by simp only [aTell, gi_put_ne, gi_put_k, gi_put_o, gi_set_ne, ga_put, ga_set_ne, ga_set_eq, gL_put, gL_set_ne, gL_set_eq, gq_put, gq_set_ne, gq_set_eq, fld_set_ne, fld_put_ne, fld_put_k, fld_put_same, Option.map_some, Option.elim_some, Nat.reduceEqDiff, not_false_eq_true]; exact E.1.2
    have e7 : gi (aTell σ 26 27 28 29 100 ne (gi σ 0 10 11) x m) 40 11 7 = nI np := by simp only [aTell, gi_put_ne, gi_put_k, gi_put_o, gi_set_ne, ga_put, ga_set_ne, ga_set_eq, gL_put, gL_set_ne, gL_set_eq, gq_put, gq_set_ne, gq_set_eq, fld_set_ne, fld_put_ne, fld_put_k, fld_put_same, Option.map_some, Option.elim_some, Nat.reduceEqDiff, not_false_eq_true]; exact P.1.2
    rw [if_pos c, h1 _ _ F.1 (HI_fr F hH), M_embargo (np := np) F.1 e hn, e7, if_pos (by rw [← ltB_in (by omega)]; exact c)]
    refine h2 _ _ ⟨⟨F2.1, R30_fr F2 (by decide) hR, HI_fr F2 hH⟩, Ick_fr F2 (by decide) hk, n, nt, p, np, nc, nl, ne + 1, t, ns, q, fp, fw, Iwd_fr F2 (by decide) W, Ipc_fr F2 (by decide) P, Icp_fr F2 (by decide) C, Ilv_fr F2 (by decide) Lv, ?_, Itp_fr F2 (by decide) T, Ift_fr F2 (by decide) Fa, Irt_fr F2 (by decide) R, TXS_fr F2 (by decide) (fun B s hB => by simp at hB) X, Isl_fr F2 (by decide) (Nat.le_refl _) P.2.1.1 (fun i _ => by rw [ga_fr F2 (by decide) (by decide)]) S, Ipr_fr F2 (by decide) U⟩ (by constructor <;> simp only [mEmb, aTell, put_1, put_2, set_1, set_2] <;> omega)
    simp only [Iem, mEmb, aTell, gi_put_ne, gi_put_k, gi_put_o, gi_set_ne, ga_put, ga_set_ne, ga_set_eq, gL_put, gL_set_ne, gL_set_eq, gq_put, gq_set_ne, gq_set_eq, fld_set_ne, fld_put_ne, fld_put_k, fld_put_same, Option.map_some, Option.elim_some, Nat.reduceEqDiff, not_false_eq_true, i_40_23 hS, i_26_3 hS, hk.1]
    exact ⟨⟨(by trivial), (by trivial)⟩, BL_new E.2 (by omega) _ _ _⟩
  · rw [if_neg c, h1 _ _ hS hH, M_embargo (np := np) hS E.1.2 hn, P.1.2, if_neg (by rw [← ltB_in (by omega)]; exact c)]
    exact h2 _ _ I (Gr_refl σ)
theorem c_known (I : INV L xs σ) (x m : Int32) (b : Bool) : CA L xs .int σ (fun K => ax k_A_known 0 [some (.ref 0), some (.int x), some (.int m), some (.int (bi b))] [] σ K) (fun σ1 K => ax k_M_known 0 [some (.ref 40), some (.int x), some (.int m), some (.int (bi b))] [] σ1 K) := by
  intro K K2 h1 h2
  dsimp only at h1
  have I' := I
  obtain ⟨⟨hS, hR, hH⟩, hk, n, nt, p, np, nc, nl, ne, t, ns, q, fp, fw, W, P, C, Lv, E, T, Fa, R, X, S, U⟩ := I'
  have hnp := P.2.1.1
  show ax k_A_known 0 _ [] σ K
  rw [A_known hS Lv.1.1 Lv.2.1.1 E.1.1 E.2.1, h1 _ _ hS hH, M_known hS Lv.2.2 Lv.1.2 Lv.2.1.1 E.1.2 E.2.1, hk.1, P.1.1, P.1.2, ltB_16, ltB_in (by omega), lat_last nl Lv.2.1.2, lat_last ne E.2.2]
  exact h2 _ _ I (Gr_refl σ)
theorem c_fault (I : INV L xs σ) (w : Int32) : CA L xs .int σ (fun K => ax k_A_fault 0 [some (.ref 0), some (.int w)] [] σ K) (fun σ1 K => ax k_M_fault 0 [some (.ref 40), some (.int w)] [] σ1 K) := by
  intro K K2 h1 h2
  dsimp only at h1
  have I' := I
  obtain ⟨⟨hS, hR, hH⟩, hk, n, nt, p, np, nc, nl, ne, t, ns, q, fp, fw, W, P, C, Lv, E, T, Fa, R, X, S, U⟩ := I'
  show ax k_A_fault 0 _ [] σ K
  have e : (if gi σ 30 4 1 = 0 then -1 else if w = 0 then gi σ 30 4 2 else if w = 1 then gi σ 30 4 3 else -1) = (if w = 0 then gi σ 40 11 38 else if w = 1 then gi σ 40 11 39 else -1) := by
    rcases Fa with ⟨a, b, c⟩ | ⟨a, b, c⟩
    · rw [if_pos a, b, c]
      by_cases c0 : w = 0 <;> by_cases c1 : w = 1 <;> simp [c0, c1]
    · rw [if_neg a, b, c]
  rw [A_fault hS, h1 _ _ hS hH, M_fault hS, e]
  exact h2 _ _ I (Gr_refl σ)
theorem c_printed (I : INV L xs σ) (x : Int32) : CA L xs .int σ (fun K => ax k_A_printed 0 [some (.ref 0), some (.int x)] [] σ K) (fun σ1 K => ax k_M_printed 0 [some (.ref 40), some (.int x)] [] σ1 K) := by
  intro K K2 h1 h2
  dsimp only at h1
  have I' := I
  obtain ⟨⟨hS, hR, hH⟩, hk, n, nt, p, np, nc, nl, ne, t, ns, q, fp, fw, W, P, C, Lv, E, T, Fa, R, X, S, U⟩ := I'
  have hq := U.1.2.2
  show ax k_A_printed 0 _ [] σ K
  have e : (if ltB x (nI q) = true then ga σ 38 x.toNatClampNeg else -1) = (if inB x 0 (nI q - 1) = true then ga σ 82 x.toNatClampNeg else -1) := by
    rw [← ltB_in (by omega)]
    by_cases c : ltB x (nI q) = true
    · obtain ⟨i, hi, rfl⟩ := ltB_ix (by omega) c
      rw [if_pos c, if_pos c, nI_clamp (by omega)]
      exact U.2.1 i hi
    · rw [if_neg c, if_neg c]
  rw [A_printed hS U.1.1 hq, h1 _ _ hS hH, M_printed hS U.1.2.1 hq, e]
  exact h2 _ _ I (Gr_refl σ)
theorem c_about (I : INV L xs σ) (w : Int32) : CA L xs .int σ (fun K => ax k_A_about 0 [some (.ref 0), some (.int w)] [] σ K) (fun σ1 K => ax k_M_about 0 [some (.ref 40), some (.int w), none, none] [] σ1 K) := by
  intro K K2 h1 h2
  dsimp only at h1
  have I' := I
  obtain ⟨⟨hS, hR, hH⟩, hk, n, nt, p, np, nc, nl, ne, t, ns, q, fp, fw, W, P, C, Lv, E, T, Fa, R, X, S, U⟩ := I'
  show ax k_A_about 0 _ [] σ K
  rw [A_about hS, h1 _ _ hS hH, M_about hS U.1.2.1 U.1.2.2, W.1.1.1, W.1.1.2, P.1.1, P.1.2, hk.1, S.1.1, S.1.2, U.1.1, U.1.2.1, U.2.2, P.2.2, R.2.1, T.1.1, T.1.2.1]
  exact h2 _ _ I (Gr_refl σ)
theorem c_rate (I : INV L xs σ) (u v : Int32) : CA L xs .int σ (fun K => ax k_A_rate 0 [some (.ref 0), some (.int u), some (.int v)] [] σ K) (fun σ1 K => ax k_M_rate 0 [some (.ref 40), some (.int u), some (.int v)] [] σ1 K) := by
  intro K K2 h1 h2
  dsimp only at h1
  have I' := I
  obtain ⟨⟨hS, hR, hH⟩, hk, n, nt, p, np, nc, nl, ne, t, ns, q, fp, fw, W, P, C, Lv, E, T, Fa, R, X, S, U⟩ := I'
  show ax k_A_rate 0 _ [] σ K
  rw [A_rate hS]
  by_cases c : u = -1 ∧ inB v 0 100 = true
  · have F : FM [] [(0, 10), (40, 59)] [] σ (am_put σ 0 10 (.int v)) := FM_p 10 (FM_refl hS) (by decide)
    have F2 : FM [] [(0, 10), (40, 59)] [] σ (am_put (am_put σ 0 10 (.int v)) 40 59 (.int v)) := FM_p 11 F (by decide)
    rw [if_pos c, h1 _ _ F.1 (HI_fr F hH), M_rate F.1, if_pos c]
    refine h2 _ _ ⟨⟨F2.1, R30_fr F2 (by decide) hR, HI_fr F2 hH⟩, Ick_fr F2 (by decide) hk, n, nt, p, np, nc, nl, ne, t, ns, q, fp, fw, Iwd_fr F2 (by decide) W, Ipc_fr F2 (by decide) P, Icp_fr F2 (by decide) C, Ilv_fr F2 (by decide) Lv, Iem_fr F2 (by decide) E, Itp_fr F2 (by decide) T, Ift_fr F2 (by decide) Fa, ?_, TXS_fr F2 (by decide) (fun B s hB => by simp at hB) X, Isl_fr F2 (by decide) (Nat.le_refl _) P.2.1.1 (fun i _ => by rw [ga_fr F2 (by decide) (by decide)]) S, Ipr_fr F2 (by decide) U⟩ (by constructor <;> simp only [ put_1, put_2, set_1, set_2] <;> omega)
    simp only [Irt, gi_put_ne, gi_put_k, gi_put_o, gi_set_ne, ga_put, ga_set_ne, ga_set_eq, gL_put, gL_set_ne, gL_set_eq, gq_put, gq_set_ne, gq_set_eq, fld_set_ne, fld_put_ne, fld_put_k, fld_put_same, Option.map_some, Option.elim_some, Nat.reduceEqDiff, not_false_eq_true, i_40_59 hS, i_0_10 hS]
    exact ⟨R.1, (by trivial), c.2⟩
  · rw [if_neg c]
    by_cases d : ltB u 5 = true ∧ inB v 0 100000 = true
    · have F : FM [39, 81] [] [] σ (am_set σ 39 (am_ia 0 5 (upd (ga σ 39) u.toNatClampNeg v))) := FM_j (FM_refl hS) (by decide)
      have F2 : FM [39, 81] [] [] σ (am_set (am_set σ 39 (am_ia 0 5 (upd (ga σ 39) u.toNatClampNeg v))) 81 (am_ia 0 5 (upd (ga (am_set σ 39 (am_ia 0 5 (upd (ga σ 39) u.toNatClampNeg v))) 81) u.toNatClampNeg v))) := FM_j F (by decide)
      rw [if_pos d, h1 _ _ F.1 (HI_fr F hH), M_rate F.1, if_neg c, if_pos (by rw [← ltB_5]; exact d)]
      refine h2 _ _ ⟨⟨F2.1, R30_fr F2 (by decide) hR, HI_fr F2 hH⟩, Ick_fr F2 (by decide) hk, n, nt, p, np, nc, nl, ne, t, ns, q, fp, fw, Iwd_fr F2 (by decide) W, Ipc_fr F2 (by decide) P, Icp_fr F2 (by decide) C, Ilv_fr F2 (by decide) Lv, Iem_fr F2 (by decide) E, Itp_fr F2 (by decide) T, Ift_fr F2 (by decide) Fa, ?_, TXS_fr F2 (by decide) (fun B s hB => by simp at hB) X, Isl_fr F2 (by decide) (Nat.le_refl _) P.2.1.1 (fun i _ => by rw [ga_fr F2 (by decide) (by decide)]) S, Ipr_fr F2 (by decide) U⟩ (by constructor <;> simp only [ put_1, put_2, set_1, set_2] <;> omega)
      simp only [Irt, gi_put_ne, gi_put_k, gi_put_o, gi_set_ne, ga_put, ga_set_ne, ga_set_eq, gL_put, gL_set_ne, gL_set_eq, gq_put, gq_set_ne, gq_set_eq, fld_set_ne, fld_put_ne, fld_put_k, fld_put_same, Option.map_some, Option.elim_some, Nat.reduceEqDiff, not_false_eq_true]
      refine ⟨fun z hz => ?_, R.2⟩
      by_cases e : z = u.toNatClampNeg
      · rw [e, upd_eq, upd_eq]
        exact ⟨rfl, d.2⟩
      · rw [upd_ne e, upd_ne e]
        exact R.1 z hz
    · rw [if_neg d, h1 _ _ hS hH, M_rate hS, if_neg c, if_neg (by rw [← ltB_5]; exact d)]
      exact h2 _ _ I (Gr_refl σ)
theorem c_end (I : INV L xs σ) (v : Int32) : CA L xs .int σ (fun K => ax k_A_end 0 [some (.ref 0), some (.int v)] [] σ K) (fun σ1 K => ax k_M_end 0 [some (.ref 40), some (.int v)] [] σ1 K) := by
  intro K K2 h1 h2
  dsimp only at h1
  have I' := I
  obtain ⟨⟨hS, hR, hH⟩, hk, n, nt, p, np, nc, nl, ne, t, ns, q, fp, fw, W, P, C, Lv, E, T, Fa, R, X, S, U⟩ := I'
  have ht := T.1.2.2
  show ax k_A_end 0 _ [] σ K
  rw [A_end hS, T.1.1]
  by_cases c : inB v 0 (nI t) = true
  · have F : FM [] [(31, 1), (40, 29)] [] σ (am_put σ 31 1 (.int v)) := FM_p 7 (FM_refl hS) (by decide)
    have F2 : FM [] [(31, 1), (40, 29)] [] σ (am_put (am_put σ 31 1 (.int v)) 40 29 (.int v)) := FM_p 11 F (by decide)
    have e : gi (am_put σ 31 1 (.int v)) 40 11 29 = nI t := by simp only [gi_put_ne, gi_put_k, gi_put_o, gi_set_ne, ga_put, ga_set_ne, ga_set_eq, gL_put, gL_set_ne, gL_set_eq, gq_put, gq_set_ne, gq_set_eq, fld_set_ne, fld_put_ne, fld_put_k, fld_put_same, Option.map_some, Option.elim_some, Nat.reduceEqDiff, not_false_eq_true]; exact T.1.2.1
    obtain ⟨j, -, hj, hv⟩ := inB_nat (lo := 0) (hi := t) (by decide) (by omega) c
    rw [if_pos c, h1 _ _ F.1 (HI_fr F hH), M_end F.1, e, if_pos c]
    refine h2 _ _ ⟨⟨F2.1, R30_fr F2 (by decide) hR, HI_fr F2 hH⟩, Ick_fr F2 (by decide) hk, n, nt, p, np, nc, nl, ne, j, ns, q, fp, fw, Iwd_fr F2 (by decide) W, Ipc_fr F2 (by decide) P, Icp_fr F2 (by decide) C, Ilv_fr F2 (by decide) Lv, Iem_fr F2 (by decide) E, ?_, Ift_fr F2 (by decide) Fa, Irt_fr F2 (by decide) R, TXS_fr F2 (by decide) (fun B s hB => by simp at hB) X, Isl_fr F2 (by decide) (Nat.le_refl _) P.2.1.1 (fun i _ => by rw [ga_fr F2 (by decide) (by decide)]) S, Ipr_fr F2 (by decide) U⟩ (by constructor <;> simp only [ put_1, put_2, set_1, set_2] <;> omega)
    simp only [Itp, gi_put_ne, gi_put_k, gi_put_o, gi_set_ne, ga_put, ga_set_ne, ga_set_eq, gL_put, gL_set_ne, gL_set_eq, gq_put, gq_set_ne, gq_set_eq, fld_set_ne, fld_put_ne, fld_put_k, fld_put_same, Option.map_some, Option.elim_some, Nat.reduceEqDiff, not_false_eq_true, i_40_29 hS, i_31_1 hS]
    exact ⟨⟨hv, hv, by omega⟩, fun z hz => T.2 z (by omega)⟩
  · rw [if_neg c, h1 _ _ hS hH, M_end hS, T.1.2.1, if_neg c]
    exact h2 _ _ I (Gr_refl σ)
theorem FM_aFour {W : List Nat} {V : List (Nat × Nat)} {Y : List Nat} (F : FM W V Y σ τ) (h : 32 ∈ W ∧ (31, 1) ∈ V) (t : Nat) (v : Int32) : FM W V Y σ (aFour τ t v) := FM_j (FM_p 7 F ⟨⟨⟨by decide, h.2⟩, by decide⟩, by decide⟩) ⟨⟨⟨by decide, h.1⟩, by decide⟩, ⟨by decide, by decide⟩, by decide, by decide⟩
theorem FM_mFour {W : List Nat} {V : List (Nat × Nat)} {Y : List Nat} (F : FM W V Y σ τ) (h : 60 ∈ W ∧ (40, 29) ∈ V) (t : Nat) (v : Int32) : FM W V Y σ (mFour τ t v) := FM_j (FM_p 11 F ⟨⟨⟨by decide, h.2⟩, by decide⟩, by decide⟩) ⟨⟨⟨by decide, h.1⟩, by decide⟩, ⟨by decide, by decide⟩, by decide, by decide⟩
theorem c_feed (I : INV L xs σ) (a b c d e : Int32) : CA L xs .int σ (fun K => ax k_A_feed 0 [some (.ref 0), some (.int a), some (.int b), some (.int c), some (.int d), some (.int e)] [] σ K) (fun σ1 K => ax k_M_feed 0 [some (.ref 40), some (.int a), some (.int b), some (.int c), some (.int d), some (.int e)] [] σ1 K) := by
  intro K K2 h1 h2
  dsimp only at h1
  have I' := I
  obtain ⟨⟨hS, hR, hH⟩, hk, n, nt, p, np, nc, nl, ne, t, ns, q, fp, fw, W, P, C, Lv, E, T, Fa, R, X, S, U⟩ := I'
  have ht := T.1.2.2
  show ax k_A_feed 0 _ [] σ K
  rw [A_feed hS T.1.1 ht]
  by_cases h : t + 20 ≤ 120
  · have F : FM [32, 60] [(31, 1), (40, 29)] [] σ (aFeed σ t a b c d e) := FM_aFour (FM_aFour (FM_aFour (FM_aFour (FM_aFour (FM_refl hS) (by decide) _ _) (by decide) _ _) (by decide) _ _) (by decide) _ _) (by decide) _ _
    have F2 : FM [32, 60] [(31, 1), (40, 29)] [] σ (mFeed (aFeed σ t a b c d e) t a b c d e) := FM_mFour (FM_mFour (FM_mFour (FM_mFour (FM_mFour F (by decide) _ _) (by decide) _ _) (by decide) _ _) (by decide) _ _) (by decide) _ _
    have e29 : gi (aFeed σ t a b c d e) 40 11 29 = nI t := by simp only [aFeed, aFour, gi_put_ne, gi_put_k, gi_put_o, gi_set_ne, ga_put, ga_set_ne, ga_set_eq, gL_put, gL_set_ne, gL_set_eq, gq_put, gq_set_ne, gq_set_eq, fld_set_ne, fld_put_ne, fld_put_k, fld_put_same, Option.map_some, Option.elim_some, Nat.reduceEqDiff, not_false_eq_true]; exact T.1.2.1
    rw [if_pos h, h1 _ _ F.1 (HI_fr F hH), M_feed F.1 e29 ht, if_pos h]
    refine h2 _ _ ⟨⟨F2.1, R30_fr F2 (by decide) hR, HI_fr F2 hH⟩, Ick_fr F2 (by decide) hk, n, nt, p, np, nc, nl, ne, t + 20, ns, q, fp, fw, Iwd_fr F2 (by decide) W, Ipc_fr F2 (by decide) P, Icp_fr F2 (by decide) C, Ilv_fr F2 (by decide) Lv, Iem_fr F2 (by decide) E, ?_, Ift_fr F2 (by decide) Fa, Irt_fr F2 (by decide) R, TXS_fr F2 (by decide) (fun B s hB => by simp at hB) X, Isl_fr F2 (by decide) (Nat.le_refl _) P.2.1.1 (fun i _ => by rw [ga_fr F2 (by decide) (by decide)]) S, Ipr_fr F2 (by decide) U⟩ (by constructor <;> simp only [mFeed, mFour, aFeed, aFour, put_1, put_2, set_1, set_2] <;> omega)
    simp only [Itp, mFeed, mFour, aFeed, aFour, gi_put_ne, gi_put_k, gi_put_o, gi_set_ne, ga_put, ga_set_ne, ga_set_eq, gL_put, gL_set_ne, gL_set_eq, gq_put, gq_set_ne, gq_set_eq, fld_set_ne, fld_put_ne, fld_put_k, fld_put_same, Option.map_some, Option.elim_some, Nat.reduceEqDiff, not_false_eq_true, i_40_29 hS, i_31_1 hS]
    exact ⟨⟨(by trivial), (by trivial), h⟩, TP4 (TP4 (TP4 (TP4 (TP4 T.2 a) b) c) d) e⟩
  · rw [if_neg h, h1 _ _ hS hH, M_feed hS T.1.2.1 ht, if_neg h]
    exact h2 _ _ I (Gr_refl σ)
end K4
