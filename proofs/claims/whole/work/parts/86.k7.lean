/-! THE CALLS ON BOTH SIDES, 7: sales that are struck, told, printed -/
theorem x64 {n : Nat} (h : n < 2 ^ 31) : (nI n).toInt64 = Int64.ofNat n := by
  apply Int64.toInt_inj.mp
  rw [Int32.toInt_toInt64, xI_toI h, Int64.toInt_ofNat_of_lt (by omega)]
theorem x64_add {a b : Nat} (ha : a < 2 ^ 30) (hb : b < 2 ^ 30) : (nI a + nI b).toInt64 = (nI a).toInt64 + (nI b).toInt64 := by
  rw [nI_add, x64 (by omega), x64 (by omega), x64 (by omega), Int64.ofNat_add]
section K7
variable {L : Nat} {xs : Nat → Int32} {σ τ : am_H} {np ns : Nat}
theorem get_put_ob {a ci k : Nat} {l : List Value} {v : Value} (h : am_get σ a = some (am_ob ci l)) : am_get (am_put σ a k v) a = some (am_ob ci (l.set k v)) := by
  rw [get_put_eq, h]
/-- one sale says something else than before -/
theorem SLS_mod {A : Nat → Nat} (hS : SalAt σ ns A (vS σ)) (hA : ∀ s, s < ns → A s < σ.1) (hinj : ∀ a b, a < ns → b < ns → A a = A b → a = b) {s j : Nat} {x : Int32} (hs : s < ns) (hget : am_get τ (A s) = some (am_ob 5 ((slL (vS σ) s).set j (.int x)))) (hoth : ∀ B, 83 ≤ B → B < σ.1 → ¬ B = A s → am_get τ B = am_get σ B) (h37 : gq τ 37 = gq σ 37) (hv : ∀ s', s' < ns → ¬ s' = s → slL (vS τ) s' = slL (vS σ) s') (hv2 : slL (vS τ) s = (slL (vS σ) s).set j (.int x)) : SalAt τ ns A (vS τ) := by
  intro s' hs'
  obtain ⟨a1, a2, a3, a4⟩ := hS s' hs'
  refine ⟨by rw [h37]; exact a1, ?_, a3, a4⟩
  by_cases e : s' = s
  · subst e
    rw [hget, hv2]
  · rw [hoth (A s') a3 (hA s' hs') (fun z => e (hinj s' s hs' hs z)), hv s' hs' e]
    exact a2
theorem no_term {A : Nat → Nat} {s : Nat} (h : am_get σ (A s) = some (am_ob 5 (slL (vS σ) s))) {P : Prop} : ∀ B r, B ∈ [A s] → am_get σ B = some (rTm r) → P := by
  intro B r hB hr
  rw [List.mem_singleton] at hB
  rw [hB, h] at hr
  unfold rTm at hr
  simp [am_ob] at hr
theorem c_strike (I : INV L xs σ) (x : Int32) : CA L xs .int σ (fun K => ax k_A_strike 0 [some (.ref 0), some (.int x), none] [] σ K) (fun σ1 K => ax k_M_strike 0 [some (.ref 40), some (.int x)] [] σ1 K) := by
  intro K K2 h1 h2
  dsimp only at h1
  have I' := I
  obtain ⟨⟨hS, hR, hH⟩, hk, n, nt, p, np, nc, nl, ne, t, ns, q, fp, fw, W, P, C, Lv, E, T, Fa, R, X, S, U⟩ := I'
  obtain ⟨⟨s1, s2⟩, h60, A, hSal, hA, hinj, hr⟩ := S
  show ax k_A_strike 0 _ [] σ K
  by_cases c : ltB x (nI ns) = true
  · obtain ⟨s, hs, rfl⟩ := ltB_ix (by omega) c
    have c' : inB (nI s) 0 (nI ns - 1) = true := by rw [← ltB_in (by omega)]; exact c
    have cl : (nI s).toNatClampNeg = s := nI_clamp (by omega)
    obtain ⟨a1, a2, a3, a4⟩ := hSal s hs
    rw [A_strike hS s1 h60 hSal hs]
    by_cases d : vS σ s 11 = 0
    · have d' : ga σ 79 s = 0 := d
      have F : FM [79] [] [A s] σ (am_put σ (A s) 11 (.int 1)) := FM_x (FM_refl hS) (List.mem_singleton.mpr rfl) a3 a4
      have e79 : ga (am_put σ (A s) 11 (.int 1)) 79 = ga σ 79 := ga_put
      have F2 : FM [79] [] [A s] σ (am_set (am_put σ (A s) 11 (.int 1)) 79 (am_ia 1 60 (upd (ga σ 79) s 1))) := FM_j F (by decide)
      rw [if_pos d, h1 _ _ F.1 (HI_fr F hH), M_strike F.1 (by rw [gi_fr F (by decide) (by decide) (by decide)]; exact s2) h60, cl, e79, if_pos ⟨c', d'⟩]
      have m1 : (am_set (am_put σ (A s) 11 (.int 1)) 79 (am_ia 1 60 (upd (ga σ 79) s 1))).1 = σ.1 := by simp only [set_1, put_1]
      have g79 : ga (am_set (am_put σ (A s) 11 (.int 1)) 79 (am_ia 1 60 (upd (ga σ 79) s 1))) 79 = upd (ga σ 79) s 1 := ga_set_eq
      have gA : am_get (am_set (am_put σ (A s) 11 (.int 1)) 79 (am_ia 1 60 (upd (ga σ 79) s 1))) (A s) = some (am_ob 5 ((slL (vS σ) s).set 11 (.int 1))) := (get_set_ne (by omega)).trans (get_put_ob a2)
      refine h2 _ _ ⟨⟨F2.1, R30_fr F2 (by decide) hR, HI_fr F2 hH⟩, Ick_fr F2 (by decide) hk, n, nt, p, np, nc, nl, ne, t, ns, q, fp, fw, Iwd_fr F2 (by decide) W, Ipc_fr F2 (by decide) P, Icp_fr F2 (by decide) C, Ilv_fr F2 (by decide) Lv, Iem_fr F2 (by decide) E, Itp_fr F2 (by decide) T, Ift_fr F2 (by decide) Fa, Irt_fr F2 (by decide) R, TXS_fr F2 (by decide) (fun B r hB hr => no_term a2 B r hB hr) X, ?_, Ipr_fr F2 (by decide) U⟩ (by constructor <;> simp only [ put_1, put_2, set_1, set_2] <;> omega)
      generalize am_set (am_put σ (A s) 11 (.int 1)) 79 (am_ia 1 60 (upd (ga σ 79) s 1)) = τ at F2 m1 g79 gA
      have er : ∀ a, a ∈ [44, 69, 70, 71, 72, 73, 74, 75, 76, 77, 78, 80] → ga τ a = ga σ a := fun a ha => ga_fr F2 (by revert a; decide) (by revert a; decide)
      have ev : ∀ s' k, ¬ k = 11 → vS τ s' k = vS σ s' k := by
        intro s' k hk
        unfold vS
        split <;> first | (exact absurd rfl hk) | rfl | simp only [er 44 (by decide), er 69 (by decide), er 70 (by decide), er 71 (by decide), er 72 (by decide), er 73 (by decide), er 74 (by decide), er 75 (by decide), er 76 (by decide), er 77 (by decide), er 78 (by decide), er 80 (by decide)]
      have ev11 : ∀ s', vS τ s' 11 = upd (ga σ 79) s 1 s' := fun s' => by show ga τ 79 s' = _; rw [g79]
      refine ⟨⟨by rw [gi_fr F2 (by decide) (by decide) (by decide)]; exact s1, by rw [gi_fr F2 (by decide) (by decide) (by decide)]; exact s2⟩, h60, A, SLS_mod hSal hA hinj hs gA (fun B hb1 hb2 hb3 => F2.2.2.2.1 B hb1 hb2 (by rw [List.mem_singleton]; exact hb3)) (gq_fr F2 (by decide) (by decide)) (fun s' hs' hne => ?_) ?_, fun s' hs' => by rw [m1]; exact hA s' hs', hinj, fun s' hs' => ?_⟩
      · have e11 : vS τ s' 11 = vS σ s' 11 := by rw [ev11, upd_ne hne]; rfl
        simp only [slL, ev s' 0 (by decide), ev s' 1 (by decide), ev s' 2 (by decide), ev s' 3 (by decide), ev s' 4 (by decide), ev s' 5 (by decide), ev s' 6 (by decide), ev s' 7 (by decide), ev s' 8 (by decide), ev s' 9 (by decide), ev s' 10 (by decide), e11, ev s' 12 (by decide)]
      · have e11 : vS τ s 11 = 1 := by rw [ev11, upd_eq]
        simp only [slL, ev s 0 (by decide), ev s 1 (by decide), ev s 2 (by decide), ev s 3 (by decide), ev s 4 (by decide), ev s 5 (by decide), ev s 6 (by decide), ev s 7 (by decide), ev s 8 (by decide), ev s 9 (by decide), ev s 10 (by decide), e11, ev s 12 (by decide)]
        rfl
      · obtain ⟨r1, r2, r3, r4, r5⟩ := hr s' hs'
        rw [er 69 (by decide), er 74 (by decide), er 80 (by decide), er 76 (by decide), er 77 (by decide), g79]
        refine ⟨r1, r2, r3, ?_, r5⟩
        by_cases e : s' = s
        · rw [e, upd_eq]
          exact Or.inr rfl
        · rw [upd_ne e]
          exact r4
    · have d' : ¬ ga σ 79 s = 0 := d
      rw [if_neg d, h1 _ _ hS hH, M_strike hS s2 h60, cl, if_neg (fun z => d' z.2)]
      exact h2 _ _ I (Gr_refl σ)
  · have c' : ¬ inB x 0 (nI ns - 1) = true := by rw [← ltB_in (by omega)]; exact c
    rw [A_strike_no hS s1 (by simpa using c), h1 _ _ hS hH, M_strike hS s2 h60, if_neg (fun z => c' z.1)]
    exact h2 _ _ I (Gr_refl σ)
theorem c_saleOf (I : INV L xs σ) (x w : Int32) : CA L xs .int σ (fun K => ax k_A_saleOf 0 [some (.ref 0), some (.int x), some (.int w), none] [] σ K) (fun σ1 K => ax k_M_saleOf 0 [some (.ref 40), some (.int x), some (.int w)] [] σ1 K) := by
  intro K K2 h1 h2
  dsimp only at h1
  have I' := I
  obtain ⟨⟨hS, hR, hH⟩, hk, n, nt, p, np, nc, nl, ne, t, ns, q, fp, fw, W, P, C, Lv, E, T, Fa, R, X, S, U⟩ := I'
  obtain ⟨⟨s1, s2⟩, h60, A, hSal, hA, hinj, hr⟩ := S
  show ax k_A_saleOf 0 _ [] σ K
  by_cases c : ltB x (nI ns) = true
  · obtain ⟨s, hs, rfl⟩ := ltB_ix (by omega) c
    have c' : inB (nI s) 0 (nI ns - 1) = true := by rw [← ltB_in (by omega)]; exact c
    have cl : (nI s).toNatClampNeg = s := nI_clamp (by omega)
    rw [A_saleOf hS s1 h60 hSal hs, h1 _ _ hS hH, M_saleOf hS s2 h60, cl, if_pos c']
    exact h2 _ _ I (Gr_refl σ)
  · have c' : ¬ inB x 0 (nI ns - 1) = true := by rw [← ltB_in (by omega)]; exact c
    rw [A_saleOf_no hS s1 (by simpa using c), h1 _ _ hS hH, M_saleOf hS s2 h60, if_neg c']
    exact h2 _ _ I (Gr_refl σ)
theorem got_ag : ∀ n, gagF (vS σ) n = gotF σ (-1) n := by
  intro n
  induction n with
  | zero => rfl
  | succ n ih =>
    simp only [gagF, gotF, ih, vS, if_true]
theorem got_one {x : Int32} (hx : ¬ x = -1) : ∀ n, (∀ s, s < n → ∃ a b, a < 2 ^ 30 ∧ b < 2 ^ 30 ∧ ga σ 76 s = nI a ∧ ga σ 77 s = nI b) → gaiF (vS σ) x n = gotF σ x n := by
  intro n
  induction n with
  | zero => intro _; rfl
  | succ n ih =>
    intro h
    have ih := ih (fun s hs => h s (by omega))
    obtain ⟨a, b, ha, hb, ea, eb⟩ := h n (by omega)
    simp only [gaiF, gotF, ih, vS, if_neg hx, ea, eb]
    by_cases d : ga σ 79 n = 0
    · rw [if_pos d, if_pos d, Int64.add_assoc]
      congr 1
      have z0 : ((0 : Int32)).toInt64 = 0 := rfl
      have n0 : (0 : Int32) = nI 0 := rfl
      by_cases d1 : ga σ 44 (ga σ 69 n).toNatClampNeg = x <;> by_cases d2 : ga σ 78 n = x
      · rw [if_pos d1, if_pos d2, if_pos d1, if_pos d2, x64_add ha hb]
      · rw [if_pos d1, if_neg d2, if_pos d1, if_neg d2, Int32.add_zero, Int64.add_zero]
      · rw [if_neg d1, if_pos d2, if_neg d1, if_pos d2, Int32.zero_add, Int64.zero_add]
      · rw [if_neg d1, if_neg d2, if_neg d1, if_neg d2, Int32.add_zero, Int64.add_zero, z0]
    · rw [if_neg d, if_neg d]
theorem inB_m1 {x : Int32} (hx : ¬ x = -1) : inB x (-1) 15 = ltB x 16 := by
  rw [ltB_16]
  unfold inB
  congr 1
  have e : (x < -1) = (x < 0) := by
    apply propext
    have h1 : (-1 : Int32).toInt = -1 := by decide
    have h0 : (0 : Int32).toInt = 0 := by decide
    have hx' : ¬ x.toInt = -1 := fun z => hx (Int32.toInt_inj.mp (z.trans h1.symm))
    rw [Int32.lt_iff_toInt_lt, Int32.lt_iff_toInt_lt, h1, h0]
    omega
  simp only [e]
theorem c_got (I : INV L xs σ) (x : Int32) : CA L xs .long σ (fun K => ax k_A_got 0 [some (.ref 0), some (.int x)] [] σ K) (fun σ1 K => ax k_M_got 0 [some (.ref 40), some (.int x), none, none, none] [] σ1 K) := by
  intro K K2 h1 h2
  dsimp only at h1
  have I' := I
  obtain ⟨⟨hS, hR, hH⟩, hk, n, nt, p, np, nc, nl, ne, t, ns, q, fp, fw, W, P, C, Lv, E, T, Fa, R, X, S, U⟩ := I'
  have hnp := P.2.1.1
  obtain ⟨⟨s1, s2⟩, h60, A, hSal, hA, hinj, hr⟩ := S
  show ax k_A_got 0 _ [] σ K
  have e : (if x = -1 then gagF (vS σ) ns else if ltB x 16 = true then gaiF (vS σ) x ns else 0) = (if inB x (-1) 15 = true then gotF σ x ns else 0) := by
    by_cases d : x = -1
    · subst d
      rw [if_pos rfl, if_pos (by decide)]
      exact got_ag ns
    · rw [if_neg d, inB_m1 d, got_one d ns (fun s hs => (hr s hs).2.2.2.2)]
  rw [A_got hS s1 h60 hSal, h1 _ _ hS hH, M_got hS s2 h60 (fun s hs => by obtain ⟨⟨a, ha, e⟩, -⟩ := hr s hs; exact ⟨a, by omega, e⟩), e]
  exact h2 _ _ I (Gr_refl σ)
end K7
