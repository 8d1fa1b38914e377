/-! THE INVARIANT'S BLOCKS, AND WHAT KEEPS THEM -/
/-- all but the rows W and the fields V is the same; of the cells made since, all but X -/
def FR (W : List Nat) (V : List (Nat × Nat)) (σ τ : am_H) : Prop :=
  (∀ a, a < 83 → ¬ a ∈ W → (∀ q ∈ V, ¬ q.1 = a) → am_get τ a = am_get σ a) ∧
  (∀ a, a < 83 → ¬ a ∈ W → ∀ ci k, ¬ (a, k) ∈ V → am_fld τ a ci k = am_fld σ a ci k) ∧
  (∀ a, a < 83 → ¬ a ∈ W → am_j τ a = am_j σ a ∧ am_lv τ a = am_lv σ a ∧ am_q τ a = am_q σ a)
def FM (W : List Nat) (V : List (Nat × Nat)) (X : List Nat) (σ τ : am_H) : Prop :=
  SH τ ∧ FR W V σ τ ∧ σ.1 ≤ τ.1 ∧ (∀ B, 83 ≤ B → B < σ.1 → ¬ B ∈ X → am_get τ B = am_get σ B) ∧ (∀ a, am_top ≤ a → am_get τ a = am_get σ a)
section FMs
variable {σ τ ρ : am_H} {W W' : List Nat} {V V' : List (Nat × Nat)} {X X' : List Nat} {a ci k kd n : Nat} {x : Int32} {v : Value} {c : am_C}
theorem FM_refl (h : SH σ) : FM W V X σ σ := ⟨h, ⟨fun _ _ _ _ => rfl, fun _ _ _ _ _ _ => rfl, fun _ _ _ => ⟨rfl, rfl, rfl⟩⟩, Nat.le_refl _, fun _ _ _ _ => rfl, fun _ _ => rfl⟩
theorem FM_set (F : FM W V X σ τ) (hS : SH (am_set τ a c)) (hw : a ∈ W ∧ a < 83) : FM W V X σ (am_set τ a c) := by
  obtain ⟨-, ⟨f1, f2, f3⟩, h1, h2, h3⟩ := F
  have ne : ∀ {b : Nat}, ¬ b ∈ W → ¬ b = a := fun hb e => hb (e ▸ hw.1)
  have nt : am_top = 1000000 := rfl
  refine ⟨hS, ⟨fun b hb hbw hv => ?_, fun b hb hbw ci k hv => ?_, fun b hb hbw => ?_⟩, h1, fun b hb1 hb2 hb3 => ?_, fun b hb => ?_⟩
  · rw [get_set_ne (ne hbw)]; exact f1 b hb hbw hv
  · rw [fld_set_ne (ne hbw)]; exact f2 b hb hbw ci k hv
  · rw [j_set_ne (ne hbw), lv_set_ne (ne hbw), q_set_ne (ne hbw)]; exact f3 b hb hbw
  · rw [get_set_ne (by omega)]; exact h2 b hb1 hb2 hb3
  · rw [get_set_ne (by omega)]; exact h3 b hb
theorem FM_j {f : Nat → Int32} (F : FM W V X σ τ) (h : (((a, kd, n) ∈ sh_J ∧ a ∈ W) ∧ a < 83) ∧ ((∀ q ∈ sh_R, ¬ q.1 = a) ∧ (∀ q ∈ sh_I, ¬ q.1 = a)) ∧ (∀ q ∈ sh_L, ¬ q.1 = a) ∧ (∀ q ∈ sh_Q, ¬ q.1 = a)) : FM W V X σ (am_set τ a (am_ia kd n f)) :=
  FM_set F (SH_set_j F.1 h.1.1.1 h.2.1.1 h.2.1.2 h.2.2.1 h.2.2.2) ⟨h.1.1.2, h.1.2⟩
theorem FM_l {f : Nat → Int64} (F : FM W V X σ τ) (h : (((a, n) ∈ sh_L ∧ a ∈ W) ∧ a < 83) ∧ ((∀ q ∈ sh_R, ¬ q.1 = a) ∧ (∀ q ∈ sh_I, ¬ q.1 = a)) ∧ (∀ q ∈ sh_J, ¬ q.1 = a) ∧ (∀ q ∈ sh_Q, ¬ q.1 = a)) : FM W V X σ (am_set τ a (am_la n f)) :=
  FM_set F (SH_set_l F.1 h.1.1.1 h.2.1.1 h.2.1.2 h.2.2.1 h.2.2.2) ⟨h.1.1.2, h.1.2⟩
theorem SH_set_q {f : Nat → Option Nat} (h : SH σ) (hm : (a, ci, n) ∈ sh_Q) (hR : ∀ q ∈ sh_R, ¬ q.1 = a) (hI : ∀ q ∈ sh_I, ¬ q.1 = a) (hJ : ∀ q ∈ sh_J, ¬ q.1 = a) (hL : ∀ q ∈ sh_L, ¬ q.1 = a) : SH (am_set σ a (am_qa ci n f)) := by
  refine SH_set h hR hI (fun q hq e => absurd e (hJ q hq)) (fun q hq e => absurd e (hL q hq)) (fun q hq e => ?_)
  have e1 := h.2.2.2.2.1 q hq
  have e2 := h.2.2.2.2.1 _ hm
  rw [e] at e1
  rw [e1] at e2
  cases q with | mk q1 q2 =>
  cases q2 with | mk q2 q3 =>
  cases e2
  exact ⟨f, q_set_eq⟩
theorem FM_q {f : Nat → Option Nat} (F : FM W V X σ τ) (h : (((a, ci, n) ∈ sh_Q ∧ a ∈ W) ∧ a < 83) ∧ ((∀ q ∈ sh_R, ¬ q.1 = a) ∧ (∀ q ∈ sh_I, ¬ q.1 = a)) ∧ (∀ q ∈ sh_J, ¬ q.1 = a) ∧ (∀ q ∈ sh_L, ¬ q.1 = a)) : FM W V X σ (am_set τ a (am_qa ci n f)) :=
  FM_set F (SH_set_q F.1 h.1.1.1 h.2.1.1 h.2.1.2 h.2.2.1 h.2.2.2) ⟨h.1.1.2, h.1.2⟩
theorem FM_putS (F : FM W V X σ τ) (hS : SH (am_put τ a k v)) (hw : (a, k) ∈ V ∧ a < 83) : FM W V X σ (am_put τ a k v) := by
  obtain ⟨-, ⟨f1, f2, f3⟩, h1, h2, h3⟩ := F
  have nt : am_top = 1000000 := rfl
  refine ⟨hS, ⟨fun b hb hbw hv => ?_, fun b hb hbw ci j hv => ?_, fun b hb hbw => ?_⟩, by rw [put_1]; exact h1, fun b hb1 hb2 hb3 => ?_, fun b hb => ?_⟩
  · rw [get_put_ne (fun e => hv _ hw.1 e.symm)]; exact f1 b hb hbw hv
  · by_cases e : b = a
    · have : ¬ j = k := fun z => hv (by rw [e, z]; exact hw.1)
      rw [fld_put_k this]; exact f2 b hb hbw ci j hv
    · rw [fld_put_ne e]; exact f2 b hb hbw ci j hv
  · rw [j_put, lv_put, q_put]; exact f3 b hb hbw
  · rw [get_put_ne (by omega)]; exact h2 b hb1 hb2 hb3
  · rw [get_put_ne (by omega)]; exact h3 b hb
theorem FM_p (ci : Nat) (F : FM W V X σ τ) (h : (((a, ci, k) ∈ sh_I ∧ (a, k) ∈ V) ∧ a < 83) ∧ (∀ q ∈ sh_R, ¬ (q.1 = a ∧ q.2.2.1 = k))) : FM W V X σ (am_put τ a k (.int x)) :=
  FM_putS F (SH_put_i (ci := ci) F.1 h.1.1.1 h.2) ⟨h.1.1.2, h.1.2⟩
theorem SH_putX (h : SH σ) (ha : 83 ≤ a) : SH (am_put σ a k v) := by
  obtain ⟨l1, l2, l3, l4, l5⟩ := sh_lt
  have e83 : sh_N = 83 := rfl
  obtain ⟨h1, h2, h3, h4, h5, h6⟩ := h
  refine ⟨fun q hq => ?_, fun q hq => ?_, fun q hq => ?_, fun q hq => ?_, fun q hq => ?_, by rw [put_1]; exact h6⟩
  · rw [fld_put_ne (by have := l1 q hq; omega)]; exact h1 q hq
  · rw [fld_put_ne (by have := l2 q hq; omega), gi_put_ne (by have := l2 q hq; omega)]; exact h2 q hq
  · rw [j_put, ga_put]; exact h3 q hq
  · rw [lv_put, gL_put]; exact h4 q hq
  · rw [q_put, gq_put]; exact h5 q hq
theorem FM_x (F : FM W V X σ τ) (hx : a ∈ X) (h1 : 83 ≤ a) (h2 : a < am_top) : FM W V X σ (am_put τ a k v) := by
  obtain ⟨hS, ⟨f1, f2, f3⟩, g1, g2, g3⟩ := F
  refine ⟨SH_putX hS h1, ⟨fun b hb hbw hv => ?_, fun b hb hbw ci j hv => ?_, fun b hb hbw => ?_⟩, by rw [put_1]; exact g1, fun b hb1 hb2 hb3 => ?_, fun b hb => ?_⟩
  · rw [get_put_ne (by omega)]; exact f1 b hb hbw hv
  · rw [fld_put_ne (by omega)]; exact f2 b hb hbw ci j hv
  · rw [j_put, lv_put, q_put]; exact f3 b hb hbw
  · have ne : ¬ b = a := fun e => hb3 (by rw [e]; exact hx)
    rw [get_put_ne ne]; exact g2 b hb1 hb2 hb3
  · rw [get_put_ne (by omega)]; exact g3 b hb
theorem FM_n {d : am_C} (F : FM W V X σ τ) (hT : τ.1 < am_top) : FM W V X σ (am_new τ n d) := by
  obtain ⟨hS, ⟨f1, f2, f3⟩, g1, g2, g3⟩ := F
  have e83 : 83 ≤ τ.1 := hS.2.2.2.2.2
  refine ⟨SH_new hS, ⟨fun b hb hbw hv => ?_, fun b hb hbw ci j hv => ?_, fun b hb hbw => ?_⟩, by rw [new_1]; omega, fun b hb1 hb2 hb3 => ?_, fun b hb => ?_⟩
  · rw [get_new_ne (by omega)]; exact f1 b hb hbw hv
  · rw [fld_new_ne (by omega)]; exact f2 b hb hbw ci j hv
  · rw [j_new_ne (by omega), lv_new_ne (by omega), q_new_ne (by omega)]; exact f3 b hb hbw
  · rw [get_new_ne (by omega)]; exact g2 b hb1 hb2 hb3
  · rw [get_new_ne (by omega)]; exact g3 b hb
theorem FM_30 {T : Nat} {w : Int32} {s : RS} (F : FM W V X σ τ) (h : 30 ∈ W) : FM W V X σ (am_set τ 30 (rRd T w s)) := FM_set F (SH_rRd F.1 T w s) ⟨h, by decide⟩
theorem FM_s (F : FM W V X σ τ) (h : Scr τ ρ) (hw : (4 ∈ W ∧ 15 ∈ W) ∧ 21 ∈ W) : FM W V X σ ρ := by
  obtain ⟨hS, ⟨f1, f2, f3⟩, g1, g2, g3⟩ := F
  obtain ⟨s1, s2, s3, s4⟩ := h
  have nt : am_top = 1000000 := rfl
  have ne : ∀ {b : Nat}, ¬ b ∈ W → am_get ρ b = am_get τ b := fun {b} hb => s4 b (fun e => hb (e ▸ hw.1.1)) (fun e => hb (e ▸ hw.1.2)) (fun e => hb (e ▸ hw.2))
  refine ⟨s1, ⟨fun b hb hbw hv => ?_, fun b hb hbw ci j hv => ?_, fun b hb hbw => ?_⟩, by rw [s2]; exact g1, fun b hb1 hb2 hb3 => ?_, fun b hb => ?_⟩
  · rw [ne hbw]; exact f1 b hb hbw hv
  · rw [show am_fld ρ b ci j = am_fld τ b ci j by simp only [am_fld, ne hbw]]; exact f2 b hb hbw ci j hv
  · rw [show am_j ρ b = am_j τ b by simp only [am_j, ne hbw], show am_lv ρ b = am_lv τ b by simp only [am_lv, ne hbw], show am_q ρ b = am_q τ b by simp only [am_q, ne hbw]]; exact f3 b hb hbw
  · rw [s4 b (by omega) (by omega) (by omega)]; exact g2 b hb1 hb2 hb3
  · rw [s4 b (by omega) (by omega) (by omega)]; exact g3 b hb
theorem FM_t (F : FM W V X σ τ) (G : FM W V X τ ρ) : FM W V X σ ρ := by
  obtain ⟨hS, ⟨f1, f2, f3⟩, g1, g2, g3⟩ := F
  obtain ⟨kS, ⟨k1, k2, k3⟩, l1, l2, l3⟩ := G
  refine ⟨kS, ⟨fun b hb hbw hv => ?_, fun b hb hbw ci j hv => ?_, fun b hb hbw => ?_⟩, by omega, fun b hb1 hb2 hb3 => ?_, fun b hb => ?_⟩
  · rw [k1 b hb hbw hv]; exact f1 b hb hbw hv
  · rw [k2 b hb hbw ci j hv]; exact f2 b hb hbw ci j hv
  · rw [(k3 b hb hbw).1, (k3 b hb hbw).2.1, (k3 b hb hbw).2.2]; exact f3 b hb hbw
  · rw [l2 b hb1 (by omega) hb3]; exact g2 b hb1 hb2 hb3
  · rw [l3 b hb]; exact g3 b hb
theorem FM_w (F : FM W V X σ τ) (h1 : ∀ x ∈ W, x ∈ W') (h2 : ∀ x ∈ V, x ∈ V') (h3 : ∀ x ∈ X, x ∈ X') : FM W' V' X' σ τ := by
  obtain ⟨hS, ⟨f1, f2, f3⟩, g1, g2, g3⟩ := F
  exact ⟨hS, ⟨fun b hb hbw hv => f1 b hb (fun z => hbw (h1 _ z)) (fun q hq => hv q (h2 _ hq)), fun b hb hbw ci j hv => f2 b hb (fun z => hbw (h1 _ z)) ci j (fun z => hv (h2 _ z)), fun b hb hbw => f3 b hb (fun z => hbw (h1 _ z))⟩, g1, fun b hb1 hb2 hb3 => g2 b hb1 hb2 (fun z => hb3 (h3 _ z)), g3⟩
theorem gi_fr (F : FM W V X σ τ) (h0 : a < 83) (h1 : ¬ a ∈ W) (h2 : ¬ (a, k) ∈ V) : gi τ a ci k = gi σ a ci k := by unfold gi; rw [F.2.1.2.1 a h0 h1 ci k h2]
theorem ga_fr (F : FM W V X σ τ) (h0 : a < 83) (h1 : ¬ a ∈ W) : ga τ a = ga σ a := by unfold ga; rw [(F.2.1.2.2 a h0 h1).1]
theorem gL_fr (F : FM W V X σ τ) (h0 : a < 83) (h1 : ¬ a ∈ W) : gL τ a = gL σ a := by unfold gL; rw [(F.2.1.2.2 a h0 h1).2.1]
theorem gq_fr (F : FM W V X σ τ) (h0 : a < 83) (h1 : ¬ a ∈ W) : gq τ a = gq σ a := by unfold gq; rw [(F.2.1.2.2 a h0 h1).2.2]
theorem HI_fr {L : Nat} {xs : Nat → Int32} (F : FM W V X σ τ) (H : HI σ L xs) : HI τ L xs := fun a ha => (F.2.2.2.2 a ha).trans (H a ha)
theorem R30_fr (F : FM W V X σ τ) (h : ¬ 30 ∈ W ∧ ∀ q ∈ V, ¬ q.1 = 30) (H : R30 σ) : R30 τ := by
  unfold R30 at H ⊢
  rw [F.2.1.1 30 (by decide) h.1 h.2]
  exact H
def Ick (σ : am_H)  : Prop := (gi σ 0 10 11 = gi σ 40 11 0 ∧ inB (gi σ 40 11 0) 0 100000 = true)
theorem Ick_fr  (F : FM W V X σ τ) (h : (∀ x ∈ [0, 40], ¬ x ∈ W) ∧ ∀ x ∈ [(0, 11), (40, 0)], ¬ x ∈ V) (H : Ick σ ) : Ick τ  := by
  unfold Ick at H ⊢
  rw [gi_fr (a := 0) (ci := 10) (k := 11) F (by decide) (h.1 _ (by decide)) (h.2 _ (by decide)), gi_fr (a := 40) (ci := 11) (k := 0) F (by decide) (h.1 _ (by decide)) (h.2 _ (by decide))]
  exact H
def Iwd (σ : am_H) (n nt p : Nat) : Prop := ((gi σ 1 9 4 = nI n ∧ gi σ 40 11 1 = nI n) ∧ (gi σ 5 3 3 = nI nt ∧ gi σ 40 11 3 = nI nt) ∧ gi σ 40 11 2 = nI p) ∧ BW (gi σ 40 11 0) n nt p (ga σ 2) (ga σ 3) (ga σ 6) (ga σ 7) (ga σ 8) (ga σ 41) (ga σ 42) (ga σ 43) ∧ BE n p (ga σ 41) (ga σ 42) (ga σ 43)
theorem Iwd_fr {n nt p : Nat} (F : FM W V X σ τ) (h : (∀ x ∈ [1, 2, 3, 5, 6, 7, 8, 40, 41, 42, 43], ¬ x ∈ W) ∧ ∀ x ∈ [(1, 4), (5, 3), (40, 0), (40, 1), (40, 2), (40, 3)], ¬ x ∈ V) (H : Iwd σ n nt p) : Iwd τ n nt p := by
  unfold Iwd at H ⊢
  rw [gi_fr (a := 1) (ci := 9) (k := 4) F (by decide) (h.1 _ (by decide)) (h.2 _ (by decide)), gi_fr (a := 5) (ci := 3) (k := 3) F (by decide) (h.1 _ (by decide)) (h.2 _ (by decide)), gi_fr (a := 40) (ci := 11) (k := 0) F (by decide) (h.1 _ (by decide)) (h.2 _ (by decide)), gi_fr (a := 40) (ci := 11) (k := 1) F (by decide) (h.1 _ (by decide)) (h.2 _ (by decide)), gi_fr (a := 40) (ci := 11) (k := 2) F (by decide) (h.1 _ (by decide)) (h.2 _ (by decide)), gi_fr (a := 40) (ci := 11) (k := 3) F (by decide) (h.1 _ (by decide)) (h.2 _ (by decide)), ga_fr (a := 2) F (by decide) (h.1 _ (by decide)), ga_fr (a := 3) F (by decide) (h.1 _ (by decide)), ga_fr (a := 6) F (by decide) (h.1 _ (by decide)), ga_fr (a := 7) F (by decide) (h.1 _ (by decide)), ga_fr (a := 8) F (by decide) (h.1 _ (by decide)), ga_fr (a := 41) F (by decide) (h.1 _ (by decide)), ga_fr (a := 42) F (by decide) (h.1 _ (by decide)), ga_fr (a := 43) F (by decide) (h.1 _ (by decide))]
  exact H
def Ipc (σ : am_H) (np : Nat) : Prop := (gi σ 9 0 6 = nI np ∧ gi σ 40 11 7 = nI np) ∧ BP (gi σ 40 11 0) np (ga σ 10) (ga σ 11) (ga σ 12) (gL σ 13) (ga σ 14) (ga σ 44) (ga σ 45) (ga σ 47) (ga σ 46) (ga σ 48) ∧ gi σ 9 0 7 = gi σ 40 11 18
theorem Ipc_fr {np : Nat} (F : FM W V X σ τ) (h : (∀ x ∈ [9, 10, 11, 12, 13, 14, 40, 44, 45, 46, 47, 48], ¬ x ∈ W) ∧ ∀ x ∈ [(9, 6), (9, 7), (40, 0), (40, 7), (40, 18)], ¬ x ∈ V) (H : Ipc σ np) : Ipc τ np := by
  unfold Ipc at H ⊢
  rw [gi_fr (a := 9) (ci := 0) (k := 6) F (by decide) (h.1 _ (by decide)) (h.2 _ (by decide)), gi_fr (a := 9) (ci := 0) (k := 7) F (by decide) (h.1 _ (by decide)) (h.2 _ (by decide)), gi_fr (a := 40) (ci := 11) (k := 0) F (by decide) (h.1 _ (by decide)) (h.2 _ (by decide)), gi_fr (a := 40) (ci := 11) (k := 7) F (by decide) (h.1 _ (by decide)) (h.2 _ (by decide)), gi_fr (a := 40) (ci := 11) (k := 18) F (by decide) (h.1 _ (by decide)) (h.2 _ (by decide)), ga_fr (a := 10) F (by decide) (h.1 _ (by decide)), ga_fr (a := 11) F (by decide) (h.1 _ (by decide)), ga_fr (a := 12) F (by decide) (h.1 _ (by decide)), ga_fr (a := 14) F (by decide) (h.1 _ (by decide)), ga_fr (a := 44) F (by decide) (h.1 _ (by decide)), ga_fr (a := 45) F (by decide) (h.1 _ (by decide)), ga_fr (a := 46) F (by decide) (h.1 _ (by decide)), ga_fr (a := 47) F (by decide) (h.1 _ (by decide)), ga_fr (a := 48) F (by decide) (h.1 _ (by decide)), gL_fr (a := 13) F (by decide) (h.1 _ (by decide))]
  exact H
def Icp (σ : am_H) (n np nc : Nat) (fp fw : Nat → Nat) : Prop := (gi σ 17 3 3 = nI nc ∧ gi σ 40 11 13 = nI nc) ∧ BC (gi σ 40 11 0) n np nc (ga σ 18) (ga σ 19) (ga σ 20) (ga σ 49) (ga σ 50) (ga σ 51) (ga σ 52) (ga σ 46) fp fw
theorem Icp_fr {n np nc : Nat} {fp fw : Nat → Nat} (F : FM W V X σ τ) (h : (∀ x ∈ [17, 18, 19, 20, 40, 46, 49, 50, 51, 52], ¬ x ∈ W) ∧ ∀ x ∈ [(17, 3), (40, 0), (40, 13)], ¬ x ∈ V) (H : Icp σ n np nc fp fw) : Icp τ n np nc fp fw := by
  unfold Icp at H ⊢
  rw [gi_fr (a := 17) (ci := 3) (k := 3) F (by decide) (h.1 _ (by decide)) (h.2 _ (by decide)), gi_fr (a := 40) (ci := 11) (k := 0) F (by decide) (h.1 _ (by decide)) (h.2 _ (by decide)), gi_fr (a := 40) (ci := 11) (k := 13) F (by decide) (h.1 _ (by decide)) (h.2 _ (by decide)), ga_fr (a := 18) F (by decide) (h.1 _ (by decide)), ga_fr (a := 19) F (by decide) (h.1 _ (by decide)), ga_fr (a := 20) F (by decide) (h.1 _ (by decide)), ga_fr (a := 46) F (by decide) (h.1 _ (by decide)), ga_fr (a := 49) F (by decide) (h.1 _ (by decide)), ga_fr (a := 50) F (by decide) (h.1 _ (by decide)), ga_fr (a := 51) F (by decide) (h.1 _ (by decide)), ga_fr (a := 52) F (by decide) (h.1 _ (by decide))]
  exact H
def Ilv (σ : am_H) (nl : Nat) : Prop := (gi σ 22 3 3 = nI nl ∧ gi σ 40 11 19 = nI nl) ∧ BL nl 100 (ga σ 23) (ga σ 24) (ga σ 25) (ga σ 53) (ga σ 54) (ga σ 55) ∧ Z01 (ga σ 55)
theorem Ilv_fr {nl : Nat} (F : FM W V X σ τ) (h : (∀ x ∈ [22, 23, 24, 25, 40, 53, 54, 55], ¬ x ∈ W) ∧ ∀ x ∈ [(22, 3), (40, 19)], ¬ x ∈ V) (H : Ilv σ nl) : Ilv τ nl := by
  unfold Ilv at H ⊢
  rw [gi_fr (a := 22) (ci := 3) (k := 3) F (by decide) (h.1 _ (by decide)) (h.2 _ (by decide)), gi_fr (a := 40) (ci := 11) (k := 19) F (by decide) (h.1 _ (by decide)) (h.2 _ (by decide)), ga_fr (a := 23) F (by decide) (h.1 _ (by decide)), ga_fr (a := 24) F (by decide) (h.1 _ (by decide)), ga_fr (a := 25) F (by decide) (h.1 _ (by decide)), ga_fr (a := 53) F (by decide) (h.1 _ (by decide)), ga_fr (a := 54) F (by decide) (h.1 _ (by decide)), ga_fr (a := 55) F (by decide) (h.1 _ (by decide))]
  exact H
def Iem (σ : am_H) (ne : Nat) : Prop := (gi σ 26 3 3 = nI ne ∧ gi σ 40 11 23 = nI ne) ∧ BL ne 100 (ga σ 27) (ga σ 28) (ga σ 29) (ga σ 56) (ga σ 57) (ga σ 58)
theorem Iem_fr {ne : Nat} (F : FM W V X σ τ) (h : (∀ x ∈ [26, 27, 28, 29, 40, 56, 57, 58], ¬ x ∈ W) ∧ ∀ x ∈ [(26, 3), (40, 23)], ¬ x ∈ V) (H : Iem σ ne) : Iem τ ne := by
  unfold Iem at H ⊢
  rw [gi_fr (a := 26) (ci := 3) (k := 3) F (by decide) (h.1 _ (by decide)) (h.2 _ (by decide)), gi_fr (a := 40) (ci := 11) (k := 23) F (by decide) (h.1 _ (by decide)) (h.2 _ (by decide)), ga_fr (a := 27) F (by decide) (h.1 _ (by decide)), ga_fr (a := 28) F (by decide) (h.1 _ (by decide)), ga_fr (a := 29) F (by decide) (h.1 _ (by decide)), ga_fr (a := 56) F (by decide) (h.1 _ (by decide)), ga_fr (a := 57) F (by decide) (h.1 _ (by decide)), ga_fr (a := 58) F (by decide) (h.1 _ (by decide))]
  exact H
def Itp (σ : am_H) (t : Nat) : Prop := (gi σ 31 7 1 = nI t ∧ gi σ 40 11 29 = nI t ∧ t ≤ 120) ∧ ∀ j, j < t → ga σ 32 j = ga σ 60 j ∧ ¬ ga σ 60 j < 0
theorem Itp_fr {t : Nat} (F : FM W V X σ τ) (h : (∀ x ∈ [31, 32, 40, 60], ¬ x ∈ W) ∧ ∀ x ∈ [(31, 1), (40, 29)], ¬ x ∈ V) (H : Itp σ t) : Itp τ t := by
  unfold Itp at H ⊢
  rw [gi_fr (a := 31) (ci := 7) (k := 1) F (by decide) (h.1 _ (by decide)) (h.2 _ (by decide)), gi_fr (a := 40) (ci := 11) (k := 29) F (by decide) (h.1 _ (by decide)) (h.2 _ (by decide)), ga_fr (a := 32) F (by decide) (h.1 _ (by decide)), ga_fr (a := 60) F (by decide) (h.1 _ (by decide))]
  exact H
def Ift (σ : am_H)  : Prop := (gi σ 30 4 1 = 0 ∧ gi σ 40 11 38 = -1 ∧ gi σ 40 11 39 = -1) ∨ (¬ gi σ 30 4 1 = 0 ∧ gi σ 30 4 2 = gi σ 40 11 38 ∧ gi σ 30 4 3 = gi σ 40 11 39)
theorem Ift_fr  (F : FM W V X σ τ) (h : (∀ x ∈ [30, 40], ¬ x ∈ W) ∧ ∀ x ∈ [(30, 1), (30, 2), (30, 3), (40, 38), (40, 39)], ¬ x ∈ V) (H : Ift σ ) : Ift τ  := by
  unfold Ift at H ⊢
  rw [gi_fr (a := 30) (ci := 4) (k := 1) F (by decide) (h.1 _ (by decide)) (h.2 _ (by decide)), gi_fr (a := 30) (ci := 4) (k := 2) F (by decide) (h.1 _ (by decide)) (h.2 _ (by decide)), gi_fr (a := 30) (ci := 4) (k := 3) F (by decide) (h.1 _ (by decide)) (h.2 _ (by decide)), gi_fr (a := 40) (ci := 11) (k := 38) F (by decide) (h.1 _ (by decide)) (h.2 _ (by decide)), gi_fr (a := 40) (ci := 11) (k := 39) F (by decide) (h.1 _ (by decide)) (h.2 _ (by decide))]
  exact H
def Irt (σ : am_H)  : Prop := (∀ u, u < 5 → ga σ 39 u = ga σ 81 u ∧ inB (ga σ 81 u) 0 100000 = true) ∧ gi σ 0 10 10 = gi σ 40 11 59 ∧ inB (gi σ 40 11 59) 0 100 = true
theorem Irt_fr  (F : FM W V X σ τ) (h : (∀ x ∈ [0, 39, 40, 81], ¬ x ∈ W) ∧ ∀ x ∈ [(0, 10), (40, 59)], ¬ x ∈ V) (H : Irt σ ) : Irt τ  := by
  unfold Irt at H ⊢
  rw [gi_fr (a := 0) (ci := 10) (k := 10) F (by decide) (h.1 _ (by decide)) (h.2 _ (by decide)), gi_fr (a := 40) (ci := 11) (k := 59) F (by decide) (h.1 _ (by decide)) (h.2 _ (by decide)), ga_fr (a := 39) F (by decide) (h.1 _ (by decide)), ga_fr (a := 81) F (by decide) (h.1 _ (by decide))]
  exact H
def Ipr (σ : am_H) (q : Nat) : Prop := (gi σ 36 2 3 = nI q ∧ gi σ 40 11 60 = nI q ∧ q ≤ 60) ∧ (∀ j, j < q → ga σ 38 j = ga σ 82 j) ∧ gi σ 36 2 4 = nI (cntF (fun i => decide (ga σ 82 i < 0)) q)
theorem Ipr_fr {q : Nat} (F : FM W V X σ τ) (h : (∀ x ∈ [36, 38, 40, 82], ¬ x ∈ W) ∧ ∀ x ∈ [(36, 3), (36, 4), (40, 60)], ¬ x ∈ V) (H : Ipr σ q) : Ipr τ q := by
  unfold Ipr at H ⊢
  rw [gi_fr (a := 36) (ci := 2) (k := 3) F (by decide) (h.1 _ (by decide)) (h.2 _ (by decide)), gi_fr (a := 36) (ci := 2) (k := 4) F (by decide) (h.1 _ (by decide)) (h.2 _ (by decide)), gi_fr (a := 40) (ci := 11) (k := 60) F (by decide) (h.1 _ (by decide)) (h.2 _ (by decide)), ga_fr (a := 38) F (by decide) (h.1 _ (by decide)), ga_fr (a := 82) F (by decide) (h.1 _ (by decide))]
  exact H
theorem TXS_fr (F : FM W V X σ τ) (h : ∀ x ∈ [34, 35, 61, 62, 63, 64, 65, 66, 67, 68], ¬ x ∈ W) (hX : ∀ B s, B ∈ X → am_get σ B = some (rTm s) → am_get τ B = am_get σ B) (H : TXS σ) : TXS τ := by
  intro i hi
  obtain ⟨k, tm, ⟨hk, hc, hB⟩, h61, h2⟩ := H i hi
  refine ⟨k, tm, ⟨hk, ?_, fun j hj => ?_⟩, ?_, fun j hj => ⟨fun B hB2 => ?_, ?_⟩⟩
  · rw [ga_fr F (by decide) (h 35 (by decide))]; exact hc
  · obtain ⟨B, b1, b2, b3⟩ := hB j hj
    refine ⟨B, ?_, ?_, b3⟩
    · rw [gq_fr F (by decide) (h 34 (by decide))]; exact b1
    · have e : am_get τ B = am_get σ B := by
        by_cases hx : B ∈ X
        · exact hX B _ hx b2
        · exact F.2.2.2.1 B b3 ((h2 j hj).1 B b1) hx
      rw [e]; exact b2
  · rw [ga_fr F (by decide) (h 61 (by decide))]; exact h61
  · rw [gq_fr F (by decide) (h 34 (by decide))] at hB2
    have := (h2 j hj).1 B hB2
    have := F.2.2.1
    omega
  · rw [ga_fr (a := 62) F (by decide) (h 62 (by decide)), ga_fr (a := 63) F (by decide) (h 63 (by decide)), ga_fr (a := 64) F (by decide) (h 64 (by decide)), ga_fr (a := 65) F (by decide) (h 65 (by decide)), ga_fr (a := 66) F (by decide) (h 66 (by decide)), ga_fr (a := 67) F (by decide) (h 67 (by decide)), gL_fr (a := 68) F (by decide) (h 68 (by decide))]
    exact (h2 j hj).2
def Isl (σ : am_H) (np ns : Nat) : Prop := (gi σ 36 2 2 = nI ns ∧ gi σ 40 11 45 = nI ns) ∧ SLS σ np ns
theorem Isl_fr {np np2 ns : Nat} (F : FM W V [] σ τ) (h : (∀ x ∈ [36, 37, 40, 69, 70, 71, 72, 73, 74, 75, 76, 77, 78, 79, 80], ¬ x ∈ W) ∧ ∀ x ∈ [(36, 2), (40, 45)], ¬ x ∈ V) (hnp : np ≤ np2) (hp40 : np ≤ 40) (h44 : ∀ i, i < np → ga τ 44 i = ga σ 44 i) (H : Isl σ np ns) : Isl τ np2 ns := by
  obtain ⟨H0, h60, A, hS, hA, hi, hr⟩ := H
  have e : ∀ a, a ∈ [69, 70, 71, 72, 73, 74, 75, 76, 77, 78, 79, 80] → ga τ a = ga σ a := fun a ha => ga_fr F (by revert a; decide) (h.1 a (by revert a; decide))
  have ev : ∀ s, s < ns → slL (vS τ) s = slL (vS σ) s := by
    intro s hs
    obtain ⟨⟨q, hq, e69⟩, -⟩ := hr s hs
    have e44 : ga τ 44 (ga σ 69 s).toNatClampNeg = ga σ 44 (ga σ 69 s).toNatClampNeg := by
      rw [e69, nI_clamp (by omega)]
      exact h44 q hq
    simp only [slL, vS, e 69 (by decide), e 70 (by decide), e 71 (by decide), e 72 (by decide), e 73 (by decide), e 74 (by decide), e 75 (by decide), e 76 (by decide), e 77 (by decide), e 78 (by decide), e 79 (by decide), e 80 (by decide), e44]
  refine ⟨⟨?_, ?_⟩, h60, A, fun s hs => ?_, fun s hs => ?_, hi, fun s hs => ?_⟩
  · rw [gi_fr F (by decide) (h.1 _ (by decide)) (h.2 _ (by decide))]; exact H0.1
  · rw [gi_fr F (by decide) (h.1 _ (by decide)) (h.2 _ (by decide))]; exact H0.2
  · obtain ⟨s1, s2, s3, s4⟩ := hS s hs
    refine ⟨?_, ?_, s3, s4⟩
    · rw [gq_fr F (by decide) (h.1 _ (by decide))]; exact s1
    · rw [F.2.2.2.1 _ s3 (hA s hs) (by simp), ev s hs]; exact s2
  · have := hA s hs
    have := F.2.2.1
    omega
  · obtain ⟨⟨q, hq, e69⟩, hr2⟩ := hr s hs
    rw [e 69 (by decide), e 74 (by decide), e 80 (by decide), e 79 (by decide), e 76 (by decide), e 77 (by decide)]
    exact ⟨⟨q, by omega, e69⟩, hr2⟩
end FMs
/-- class and reference stand alike -/
def INV (L : Nat) (xs : Nat → Int32) (σ : am_H) : Prop := (SH σ ∧ R30 σ ∧ HI σ L xs) ∧ Ick σ ∧ ∃ (n nt p np nc nl ne t ns q : Nat) (fp fw : Nat → Nat), Iwd σ n nt p ∧ Ipc σ np ∧ Icp σ n np nc fp fw ∧ Ilv σ nl ∧ Iem σ ne ∧ Itp σ t ∧ Ift σ ∧ Irt σ ∧ TXS σ ∧ Isl σ np ns ∧ Ipr σ q
def Gr (σ τ : am_H) : Prop := τ.1 ≤ σ.1 + 1 ∧ τ.2.1 ≤ σ.2.1 + 13
theorem Gr_refl (σ : am_H) : Gr σ σ := ⟨by omega, by omega⟩
/-- a call on both sides: the answers are one, and class and reference stand alike behind it -/
def CA {α : Type} (L : Nat) (xs : Nat → Int32) (f : α → Value) (σ : am_H) (A : (Option Value → am_H → Prop) → Prop) (M : am_H → (Option Value → am_H → Prop) → Prop) : Prop :=
  ∀ (K : Option Value → am_H → Prop) (K2 : α → Option Value → am_H → Prop), (∀ v σ1, SH σ1 → HI σ1 L xs → K (some (f v)) σ1 = M σ1 (K2 v)) → (∀ v τ, INV L xs τ → Gr σ τ → K2 v (some (f v)) τ) → A K
/-- a change of scratch alone keeps all -/
theorem INV_scr {L : Nat} {xs : Nat → Int32} {σ τ : am_H} (F : FM [4, 15, 21, 59] [(40, 44)] [] σ τ) (I : INV L xs σ) : INV L xs τ := by
  obtain ⟨⟨hS, hR, hH⟩, hk, n, nt, p, np, nc, nl, ne, t, ns, q, fp, fw, W, P, C, Lv, E, T, Fa, R, X, S, U⟩ := I
  have e44 : ga τ 44 = ga σ 44 := ga_fr F (by decide) (by decide)
  have hnp : np ≤ 40 := P.2.1.1
  exact ⟨⟨F.1, R30_fr F (by decide) hR, HI_fr F hH⟩, Ick_fr F (by decide) hk, n, nt, p, np, nc, nl, ne, t, ns, q, fp, fw, Iwd_fr F (by decide) W, Ipc_fr F (by decide) P, Icp_fr F (by decide) C, Ilv_fr F (by decide) Lv, Iem_fr F (by decide) E, Itp_fr F (by decide) T, Ift_fr F (by decide) Fa, Irt_fr F (by decide) R, TXS_fr F (by decide) (fun B s hB => by simp at hB) X, Isl_fr F (by decide) (Nat.le_refl _) hnp (fun i _ => by rw [e44]) S, Ipr_fr F (by decide) U⟩
