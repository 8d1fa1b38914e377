/-! THE START, 4: class and reference stand alike at first -/
def mI : List (Nat × am_C) := (82, am_ia 0 60 (fun _ => 0)) :: (81, am_ia 0 5 (upd (upd (upd (upd (upd (fun _ => 0) 0 100) 1 100) 2 100) 3 100) 4 100)) :: (80, am_ia 0 60 (fun _ => 0)) :: (79, am_ia 1 60 (fun _ => 0)) :: (78, am_ia 0 60 (fun _ => 0)) :: (77, am_ia 0 60 (fun _ => 0)) :: (76, am_ia 0 60 (fun _ => 0)) :: (75, am_ia 0 60 (fun _ => 0)) :: (74, am_ia 0 60 (fun _ => 0)) :: (73, am_ia 0 60 (fun _ => 0)) :: (72, am_ia 0 60 (fun _ => 0)) :: (71, am_ia 0 60 (fun _ => 0)) :: (70, am_ia 0 60 (fun _ => 0)) :: (69, am_ia 0 60 (fun _ => 0)) :: (68, am_la 121 (fun _ => 0)) :: (67, am_ia 0 121 (fun _ => 0)) :: (66, am_ia 0 121 (fun _ => 0)) :: (65, am_ia 0 121 (fun _ => 0)) :: (64, am_ia 0 121 (fun _ => 0)) :: (63, am_ia 0 121 (fun _ => 0)) :: (62, am_ia 0 121 (fun _ => 0)) :: (61, am_ia 0 40 (fun _ => 0)) :: (60, am_ia 0 120 (fun _ => 0)) :: (59, am_ia 1 40 (fun _ => 0)) :: (58, am_ia 0 100 (fun _ => 0)) :: (57, am_ia 0 100 (fun _ => 0)) :: (56, am_ia 0 100 (fun _ => 0)) :: (55, am_ia 1 100 (fun _ => 0)) :: (54, am_ia 0 100 (fun _ => 0)) :: (53, am_ia 0 100 (fun _ => 0)) :: (52, am_ia 1 200 (fun _ => 0)) :: (51, am_ia 0 200 (fun _ => 0)) :: (50, am_ia 0 200 (fun _ => 0)) :: (49, am_ia 0 200 (fun _ => 0)) :: (48, am_ia 0 640 (fun _ => 0)) :: (47, am_ia 0 40 (fun _ => 0)) :: (46, am_ia 0 40 (fun _ => 0)) :: (45, am_ia 0 40 (fun _ => 0)) :: (44, am_ia 0 40 (fun _ => 0)) :: (43, am_ia 0 140 (fun _ => 0)) :: (42, am_ia 0 140 (fun _ => 0)) :: (41, am_ia 0 140 (fun _ => 0)) :: (40, am_ob 11 [.int 0, .int 0, .int 0, .int 0, .ref 41, .ref 42, .ref 43, .int 0, .ref 44, .ref 45, .ref 46, .ref 47, .ref 48, .int 0, .ref 49, .ref 50, .ref 51, .ref 52, .int 10, .int 0, .ref 53, .ref 54, .ref 55, .int 0, .ref 56, .ref 57, .ref 58, .ref 59, .ref 60, .int 0, .ref 61, .ref 62, .ref 63, .ref 64, .ref 65, .ref 66, .ref 67, .ref 68, .int (-1), .int (-1), .int 0, .int 0, .int 0, .int 0, .int 0, .int 0, .ref 69, .ref 70, .ref 71, .ref 72, .ref 73, .ref 74, .ref 75, .ref 76, .ref 77, .ref 78, .ref 79, .ref 80, .ref 81, .int 50, .int 0, .ref 82]) :: mA
def hI (L : Nat) (xs : Nat → Int32) : am_H := hp L xs 83 8442 mI
section I4
variable {L : Nat} {xs : Nat → Int32} {Q : Option Value → am_H → Prop}
theorem law_start : ax k_L_law 0 [some (.ref 1000000), none, none, none] [] (am_σ0 L xs) Q = ax k_L_law 18 [some (.ref 1000000), some (.ref 0), some (.ref 40), some (.int 0)] [] (hI L xs) Q := by
  rw [hp_0]
  simp only [s_L_law_0, s_L_law_3, s_L_law_4, s_L_law_7, s_L_law_8, s_L_law_11, s_L_law_12, s_L_law_15, s_L_law_16, s_L_law_17, ↓reduceIte, Nat.reduceEqDiff, Nat.reduceLT, am_top, ax_f_some, ax_k_some, ax_k_none, s8_0, s8_1, s8_2, s8_3, s8_4, c2p_n, c2p_i, c2p_r, c2p_z, okvp_i, okvp_l, okvp_r, okvp_n, okvp_z, okvp_z0, okvp_z1, bi_narp, am_nar0p, am_nar1p, bi_0, bi_1, true_and, and_true, hp_1, hp_new, Nat.reduceAdd, A_init_run, M_init_run, hI, mI]
theorem hI_R : ∀ q ∈ sh_R, am_fld (hI L xs) q.1 q.2.1 q.2.2.1 = some (.ref q.2.2.2) := by
  unfold sh_R
  repeat (refine List.forall_mem_cons.mpr ⟨rfl, ?_⟩)
  exact fun q h => absurd h List.not_mem_nil
theorem hI_I : ∀ q ∈ sh_I, am_fld (hI L xs) q.1 q.2.1 q.2.2 = some (.int (gi (hI L xs) q.1 q.2.1 q.2.2)) := by
  unfold sh_I
  repeat (refine List.forall_mem_cons.mpr ⟨rfl, ?_⟩)
  exact fun q h => absurd h List.not_mem_nil
theorem hI_J : ∀ q ∈ sh_J, am_j (hI L xs) q.1 = some (q.2.1, q.2.2, ga (hI L xs) q.1) := by
  unfold sh_J
  repeat (refine List.forall_mem_cons.mpr ⟨rfl, ?_⟩)
  exact fun q h => absurd h List.not_mem_nil
theorem hI_L : ∀ q ∈ sh_L, am_lv (hI L xs) q.1 = some (q.2, gL (hI L xs) q.1) := by
  unfold sh_L
  repeat (refine List.forall_mem_cons.mpr ⟨rfl, ?_⟩)
  exact fun q h => absurd h List.not_mem_nil
theorem hI_Q : ∀ q ∈ sh_Q, am_q (hI L xs) q.1 = some (q.2.1, q.2.2, gq (hI L xs) q.1) := by
  unfold sh_Q
  repeat (refine List.forall_mem_cons.mpr ⟨rfl, ?_⟩)
  exact fun q h => absurd h List.not_mem_nil
theorem hI_S : SH (hI L xs) := ⟨hI_R, hI_I, hI_J, hI_L, hI_Q, Nat.le_refl 83⟩
theorem hI_30 : R30 (hI L xs) := ⟨0, 0, -1, 0, 0, 0, 0, 0, 0, .null, rfl⟩
theorem hI_H : HI (hI L xs) L xs := fun a ha => if_neg (Nat.not_lt.mpr ha)
theorem no0 {P : Prop} {w : Nat} (h : w < 0) : P := absurd h (Nat.not_lt_zero w)
theorem hI_k : Ick (hI L xs) := by
  have e : gi (hI L xs) 40 11 0 = 0 := rfl
  have e2 : gi (hI L xs) 0 10 11 = 0 := rfl
  unfold Ick
  rw [e, e2]
  exact ⟨rfl, by decide⟩
theorem hI_W : Iwd (hI L xs) 0 0 0 := ⟨⟨⟨rfl, rfl⟩, ⟨rfl, rfl⟩, rfl⟩, ⟨⟨by decide, by decide, rfl⟩, fun w h => no0 h, fun k h => no0 h, fun j h => no0 h, fun j h => absurd h (by omega), fun w h => no0 h⟩, fun m w h => no0 h⟩
theorem hI_P : Ipc (hI L xs) 0 := ⟨⟨rfl, rfl⟩, ⟨by decide, fun i h => no0 h, fun a b h => no0 h, fun a _ => rfl⟩, rfl⟩
theorem hI_C : Icp (hI L xs) 0 0 0 (fun _ => 0) (fun _ => 0) := ⟨⟨rfl, rfl⟩, by decide, fun i h => no0 h, fun i h => absurd h (by omega)⟩
theorem hI_Lv : Ilv (hI L xs) 0 := ⟨⟨rfl, rfl⟩, ⟨by decide, fun k h => no0 h⟩, fun j => Or.inl rfl⟩
theorem hI_E : Iem (hI L xs) 0 := ⟨⟨rfl, rfl⟩, by decide, fun k h => no0 h⟩
theorem hI_T : Itp (hI L xs) 0 := ⟨⟨rfl, rfl, by decide⟩, fun j h => no0 h⟩
theorem hI_F : Ift (hI L xs) := Or.inl ⟨rfl, rfl, rfl⟩
theorem r100 : ∀ u : Fin 5, inB (filI (fun _ => 0) 100 5 u.1) 0 100000 = true := by decide
theorem hI_Rt : Irt (hI L xs) := by
  have e : ga (hI L xs) 81 = filI (fun _ => 0) 100 5 := rfl
  have e2 : ga (hI L xs) 39 = filI (fun _ => 0) 100 5 := rfl
  have e3 : gi (hI L xs) 0 10 10 = 50 := rfl
  have e4 : gi (hI L xs) 40 11 59 = 50 := rfl
  unfold Irt
  rw [e, e2, e3, e4]
  exact ⟨fun u hu => ⟨rfl, r100 ⟨u, hu⟩⟩, rfl, by decide⟩
theorem hI_X : TXS (hI L xs) := fun i _ => ⟨0, fun _ => (0, 0, 0, 0, 0, 0, 0, 0, 0, 0, 0, 0, 0), ⟨by decide, rfl, fun j h => no0 h⟩, rfl, fun j h => no0 h⟩
theorem hI_Sl : Isl (hI L xs) 0 0 := ⟨⟨rfl, rfl⟩, by decide, fun _ => 0, fun s h => no0 h, fun s h => no0 h, fun a b h => no0 h, fun s h => no0 h⟩
theorem hI_U : Ipr (hI L xs) 0 := ⟨⟨rfl, rfl, by decide⟩, fun j h => no0 h, rfl⟩
theorem INV_start : INV L xs (hI L xs) := ⟨⟨hI_S, hI_30, hI_H⟩, hI_k, 0, 0, 0, 0, 0, 0, 0, 0, 0, 0, fun _ => 0, fun _ => 0, hI_W, hI_P, hI_C, hI_Lv, hI_E, hI_T, hI_F, hI_Rt, hI_X, hI_Sl, hI_U⟩
/-- the law's run ends, and answers 1 -/
theorem law_run (hL : L ≤ 3584) : ∃ (f : Nat) (σ' : am_H), am_run am_dfl am_ms f k_L_law 0 [some (.ref am_top), none, none, none] [] (am_σ0 L xs) = some (some (.int 1), σ') ∧ σ'.1 ≤ 600000 ∧ σ'.2.1 ≤ 7302250 := by
  have h : ax k_L_law 0 [some (.ref 1000000), none, none, none] [] (am_σ0 L xs) (fun r σ' => r = some (.int 1) ∧ σ'.1 ≤ 600000 ∧ σ'.2.1 ≤ 7302250) := by
    rw [law_start]
    refine law_loop (S0 := 8442) hL (fun τ h1 h2 => ⟨rfl, by omega, by omega⟩) (L + 1) 0 (hI L xs) (by omega) (by omega) INV_start (Nat.le_refl _) (Nat.le_refl _)
  obtain ⟨f, r, σ', h1, rfl, h2, h3⟩ := h
  exact ⟨f, σ', h1, h2, h3⟩
end I4
