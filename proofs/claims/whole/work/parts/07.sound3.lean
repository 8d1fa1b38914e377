/-! THE PLAIN MACHINE IS SOUND, 3: reads and writes -/
theorem am_okv_ok {ad : Nat → Nat} {vF : Value} {t : Nat} {v : Value} {ty : FieldType} (h : am_okv t v = true) (ht : am_tc ty = t) : narrow ty (am_cv ad vF v) = am_cv ad vF v ∧ fits ty (am_cv ad vF v) = true := by
  subst ht
  have hb : ∀ x : Int32, x = 0 ∨ x = 1 → narrow .boolean (.int x) = .int x := by
    intro x hx
    rcases hx with rfl | rfl <;> decide +kernel
  cases v <;> cases ty <;> simp [am_okv, am_tc] at h <;> first
    | exact ⟨rfl, rfl⟩
    | (refine ⟨hb _ h, ?_⟩; rcases h with rfl | rfl <;> rfl)
theorem am_dfl_cv {ad : Nat → Nat} {vF : Value} : ∀ (k : Nat) (fs : List Value), am_dfl[k]? = some fs → fs.map (am_cv ad vF) = fs := by
  intro k fs h
  match k, h with
  | 0, h => cases h; rfl
  | 1, h => cases h; rfl
  | 2, h => cases h; rfl
  | 3, h => cases h; rfl
  | 4, h => cases h; rfl
  | 5, h => cases h; rfl
  | 6, h => cases h; rfl
  | 7, h => cases h; rfl
  | 8, h => cases h; rfl
  | 9, h => cases h; rfl
  | 10, h => cases h; rfl
  | 11, h => cases h; rfl
  | k + 12, h => simp [am_dfl] at h
theorem am_NS_none : am_cls[am_NS]? = none := rfl
theorem am_P1 {D : va_G} {a ci : Nat} {fs : List Value} {H : Heap} {r : vw_C} (h1 : am_cls[ci]? = some r) (h2 : t_OB a (D.1 ci) r.2.2 (D.2 ci) H (vp_V fs)) : va_P D am_cls [(a, .inr (ci, fs))] H := by
  intro k q hq
  have hk : k = 0 := by
    have := (List.getElem?_eq_some_iff.mp hq).1
    simp at this
    exact this
  subst hk
  cases hq
  exact ⟨r, h1, h2⟩
theorem am_cv_rf {ad : Nat → Nat} {vF : Value} (r : Option Nat) : am_cv ad vF (va_rf r) = va_rf (r.map ad) := by
  cases r <;> rfl
section AMRD
variable {p : Program} {l : Launch} {e : Env} {R : Room} {s : State} {m : MethodId} {args : Array Value} {below : List Frame} {meth : Method} {c : Code} {H : Heap} {locs : List Loc} {cells slots : Nat} {Q : State → Prop}
variable {cc : ByteArray} {pc : Nat} {ls : Array Slot} {ad : Nat → Nat} {vF : Value} {D : va_G} {B : Nat} {σ : am_H} {own : String} {ms : List am_M} {init : Bool} {nf nl : Nat}
theorem am_getf_ok (hx : p.tables.exec = Jvm.exec) (hb : c.code = cc) (hown : s.vm.findClass own = some m.cls) (hts : ∀ w ∈ lw_tbl, goodWord w = true → w.before args s = true) (hV : am_vm ad D s) (hR : am_R ad vF D B s σ H)
    {x a : Nat} {K : am_K} {fs r : List Value} {v : Value} (hg : am_get σ a = some (.inl (K.1, fs))) (hv : fs[K.2.1]? = some v) (hd : decode cc pc = .ok (.getfield x, 3)) (hc : am_ckF own x K = true)
    (k : W p l e R s m args below meth c H locs cells slots Q (F0 m (pc + 3) ls (am_cv ad vF v :: r))) : W p l e R s m args below meth c H locs cells slots Q (F0 m pc ls (.ref (ad a) :: r)) := by
  have hrel := (hR.2.2.1 a _ hg).2
  unfold am_ckF at hc
  rcases hrel with ⟨-, r', g1, g2, g3⟩ | ⟨-, g1, v0, v1, g2, g3, g4, g5⟩
  · have hne : K.1 ≠ am_NS := by
      intro hh
      have g1 : am_cls[K.1]? = some r' := g1
      rw [hh, am_NS_none] at g1
      cases g1
    have g1 : am_cls[K.1]? = some r' := g1
    rw [if_neg hne, g1] at hc
    simp only [Bool.and_eq_true, decide_eq_true_eq] at hc
    obtain ⟨⟨c1, c2⟩, c3⟩ := hc
    have hK : va_K D am_cls [] s := ⟨hV.1, fun k q h => by simp at h⟩
    have htw : ∀ w ∈ u_ws r'.1 r'.2.1 r'.2.2, w.before args s = true := fun w hw => hts w (am_cls_ws _ _ g1 w hw).1 (am_cls_ws _ _ g1 w hw).2
    have hv' : (fs.map (am_cv ad vF))[K.2.1]? = some (am_cv ad vF v) := by rw [List.getElem?_map, hv]; rfl
    have hsame : ∀ y, s.fieldFound? (r'.2.1 K.2.1).1 (r'.2.1 K.2.1).2.1 (r'.2.1 K.2.1).2.2.1 = some y → s.fieldFound? r'.1 (r'.2.1 K.2.1).2.1 (r'.2.1 K.2.1).2.2.1 = some y := fun y h => by rw [← c2]; exact h
    split at c3
    · have hw := am_wd_in c3
      exact va_get (D := D) (cl := am_cls) (C := r'.1) (T := r'.2.1) (N := r'.2.2) (ci := K.1) (ws := [(ad a, .inr (K.1, fs.map (am_cv ad vF)))]) hx hb htw (fun _ h => h) hown hK (am_P1 g1 g3) 0 rfl g1 K.2.1 c1 (hts _ hw.1 hw.2) hsame hv' hd k
    · have c3 := of_decide_eq_true c3
      exact va_getN (D := D) (cl := am_cls) (C := r'.1) (T := r'.2.1) (N := r'.2.2) (ci := K.1) (ws := [(ad a, .inr (K.1, fs.map (am_cv ad vF)))]) hx hb htw (fun _ h => h) hown hK (am_P1 g1 g3) 0 rfl g1 K.2.1 c1 (va_Nw.use rfl (hV.2.1 _ (List.mem_of_getElem? c3))) hsame hv' hd k
  · have g1 : K.1 = am_NS := g1
    have g2 : fs = [v0, v1] := g2
    rw [if_pos g1] at hc
    simp only [Bool.and_eq_true, Bool.or_eq_true, beq_iff_eq] at hc
    subst g2
    rcases hc.2 with ⟨c1, c2⟩ | ⟨c1, c2⟩
    · rw [c1] at hv
      cases hv
      have hw := am_wd_in c2
      obtain ⟨cf, k', fi, f, cell, h1, h2, h3, h4, h5, h6⟩ := g4
      exact W.getf hx hb hown (hts _ hw.1 hw.2) h1 h2 h3 h4 h5 rfl rfl hd k
    · rw [c1] at hv
      cases hv
      have hw := am_wd_in c2
      obtain ⟨cf, k', fi, f, cell, h1, h2, h3, h4, h5, h6⟩ := g5
      exact W.getf hx hb hown (hts _ hw.1 hw.2) h1 h2 h3 h4 h5 rfl rfl hd k
set_option maxHeartbeats 4000000 in
theorem am_rd_ok (hx : p.tables.exec = Jvm.exec) (hb : c.code = cc) (hF : vF.category = 1) (hown : s.vm.findClass own = some m.cls) (hts : ∀ w ∈ lw_tbl, goodWord w = true → w.before args s = true) (hV : am_vm ad D s) (hR : am_R ad vF D B s σ H) (hml : c.maxLocals = ls.size) (hnf : nf ≤ R.frames) (hnl : nl ≤ R.locals) (hcl : cells ≤ R.cells) (hsl : slots ≤ R.slots)
    {i : Instr} {K : am_K} {st st' : List Value} (h : am_rd i K st σ = some st') (hd : decode cc pc = .ok (i, am_len i)) (hc : am_ckI ms own init nf nl pc i K = true)
    (k : W p l e R s m args below meth c H locs cells slots Q (F0 m (pc + am_len i) ls (st'.map (am_cv ad vF)))) : W p l e R s m args below meth c H locs cells slots Q (F0 m pc ls (st.map (am_cv ad vF))) := by
  cases i
  case ldc x =>
    simp only [am_rd] at h
    cases h
    simp only [am_ckI] at hc
    split at hc
    · split at hc
      · rename_i q hq
        simp only [Bool.and_eq_true, decide_eq_true_eq] at hc
        obtain ⟨⟨c1, c2⟩, c3⟩ := hc
        have hZ := hV.2.2.2 _ _ hq
        rw [c1, c2] at hZ
        rw [c3] at k
        exact va_ldcS hx hb hown hZ hd k
      · cases hc
    · split at hc
      · rename_i v hv
        rw [hv] at k
        have hw := am_wd_in hc
        exact lv_ldc hx hb hown (hts _ hw.1 hw.2) hd k
      · cases hc
  case ldc_w x =>
    simp only [am_rd] at h
    cases h
    simp only [am_ckI] at hc
    split at hc
    · rename_i v hv
      rw [hv] at k
      have hw := am_wd_in hc
      exact lv_ldcw hx hb hown (hts _ hw.1 hw.2) hd k
    · cases hc
  case ldc2_w x =>
    simp only [am_rd] at h
    cases h
    simp only [am_ckI] at hc
    split at hc
    · rename_i v hv
      rw [hv] at k
      have hw := am_wd_in hc
      exact lv_ldc2 hx hb hown (hts _ hw.1 hw.2) hd k
    · cases hc
  case getstatic x =>
    simp only [am_rd] at h
    cases h
    simp only [am_ckI] at hc
    split at hc
    · rename_i v hv
      simp only [Bool.and_eq_true, beq_iff_eq] at hc
      obtain ⟨rfl, c2⟩ := hc
      rw [hv] at k
      have hw := am_wd_in c2
      obtain ⟨cf, kf, fi, f, a, cell, h1, h2, h3, h4, h5, h6, h7, h8⟩ := hR.2.2.2.1
      exact W.gets hx hb hown (hts _ hw.1 hw.2) h1 h2 h3 h4 h5 (fun e => by rw [e] at h6; cases h6) h7 rfl hd k
    · rename_i v hv
      rw [hv] at k
      have hw := am_wd_in hc
      obtain ⟨cf, kf, fi, f, a, cell, h1, h2, h3, h4, h5, h6, h7, h8⟩ := hR.2.2.2.2
      exact W.gets hx hb hown (hts _ hw.1 hw.2) h1 h2 h3 h4 h5 (fun e => by rw [e] at h6; cases h6) h7 rfl hd k
    · cases hc
  case getfield x =>
    simp only [am_rd] at h
    split at h
    · rename_i a r
      split at h
      · rename_i cj fs hg
        split at h
        · rename_i hcj
          subst hcj
          split at h
          · rename_i v hv
            cases h
            exact am_getf_ok hx hb hown hts hV hR hg hv hd hc k
          · cases h
        · cases h
      · cases h
    · cases h
  case iaload =>
    simp only [am_rd] at h
    split at h
    · rename_i j a r
      split at h
      · rename_i k0 n f hg
        split at h
        · rename_i hk
          subst hk
          split at h
          · cases h
          · rename_i hin
            cases h
            obtain ⟨cell, g1, g2, g3, g4, g5⟩ := (hR.2.2.1 a _ hg).2
            have g4 : n ≤ cell.slots.size ∧ cell.slots.size.toInt32 = Int32.ofNat n := g4
            exact W.iald hx hb g1 g2 g3 (fun z => hin (z.imp id (fun y => Nat.le_trans g4.1 y))) (g5 _ (Nat.not_le.mp fun q => hin (Or.inr q))) rfl rfl hd k
        · cases h
      · cases h
    · cases h
  case baload =>
    simp only [am_rd] at h
    split at h
    · rename_i j a r
      split at h
      · rename_i k0 n f hg
        split at h
        · rename_i hk
          split at h
          · cases h
          · rename_i hin
            cases h
            obtain ⟨cell, g1, g2, g3, g4, g5⟩ := (hR.2.2.1 a _ hg).2
            have g4 : n ≤ cell.slots.size ∧ cell.slots.size.toInt32 = Int32.ofNat n := g4
            rcases hk with rfl | rfl
            · exact W.zald hx hb g1 g2 g3 (fun z => hin (z.imp id (fun y => Nat.le_trans g4.1 y))) (g5 _ (Nat.not_le.mp fun q => hin (Or.inr q))) rfl rfl hd k
            · exact W.bald hx hb g1 g2 g3 (fun z => hin (z.imp id (fun y => Nat.le_trans g4.1 y))) (g5 _ (Nat.not_le.mp fun q => hin (Or.inr q))) rfl rfl hd k
        · cases h
      · cases h
    · cases h
  case laload =>
    simp only [am_rd] at h
    split at h
    · rename_i j a r
      split at h
      · rename_i n f hg
        split at h
        · cases h
        · rename_i hin
          cases h
          obtain ⟨cell, g1, g2, g3, g4, g5⟩ := (hR.2.2.1 a _ hg).2
          have g4 : n ≤ cell.slots.size ∧ cell.slots.size.toInt32 = Int32.ofNat n := g4
          exact W.lald hx hb g1 g2 g3 (fun z => hin (z.imp id (fun y => Nat.le_trans g4.1 y))) (g5 _ (Nat.not_le.mp fun q => hin (Or.inr q))) rfl rfl hd k
      · cases h
    · cases h
  case aaload =>
    simp only [am_rd] at h
    split at h
    · rename_i j a r
      split at h
      · rename_i ci n f hg
        split at h
        · cases h
        · rename_i hin
          cases h
          obtain ⟨cell, r', kA, comp, g1, g6, ⟨g2, g3, g4, g5⟩, -⟩ := (hR.2.2.1 a _ hg).2
          have g4 : n ≤ cell.slots.size ∧ cell.slots.size.toInt32 = Int32.ofNat n := g4
          refine W.aald (ty := .object r'.1) hx hb g1 g2 rfl g3 (fun z => hin (z.imp id (fun y => Nat.le_trans g4.1 y))) (g5 _ (Nat.not_le.mp fun q => hin (Or.inr q))) rfl rfl hd ?_
          have k : W p l e R s m args below meth c H locs cells slots Q (F0 m (pc + 1) ls (am_cv ad vF (va_rf (f j.toNatClampNeg)) :: r.map (am_cv ad vF))) := k
          rw [am_cv_rf] at k
          exact k
      · cases h
    · cases h
  case arraylength =>
    simp only [am_rd] at h
    split at h
    · rename_i a r
      split at h
      · rename_i k0 n f hg
        cases h
        obtain ⟨cell, g1, g2, g3, g4, g5⟩ := (hR.2.2.1 a _ hg).2
        have g4 : n ≤ cell.slots.size ∧ cell.slots.size.toInt32 = Int32.ofNat n := g4
        exact W.alen (n := Int32.ofNat n) hx hb g1 g2 g4.2 rfl rfl hd k
      · rename_i n f hg
        cases h
        obtain ⟨cell, g1, g2, g3, g4, g5⟩ := (hR.2.2.1 a _ hg).2
        have g4 : n ≤ cell.slots.size ∧ cell.slots.size.toInt32 = Int32.ofNat n := g4
        exact W.alen (n := Int32.ofNat n) hx hb g1 g2 g4.2 rfl rfl hd k
      · rename_i k0 n f hg
        cases h
        obtain ⟨cell, r', kA, comp, g1, g6, ⟨g2, g3, g4, g5⟩, -⟩ := (hR.2.2.1 a _ hg).2
        have g4 : n ≤ cell.slots.size ∧ cell.slots.size.toInt32 = Int32.ofNat n := g4
        exact W.alen (n := Int32.ofNat n) hx hb g1 g2 g4.2 rfl rfl hd k
      · cases h
    · cases h
  case invokespecial x =>
    simp only [am_rd] at h
    split at h
    · rename_i h9
      split at h
      · rename_i a r
        split at h
        · rename_i h8
          cases h
          simp only [am_ckI, if_pos h9, Bool.and_eq_true, decide_eq_true_eq] at hc
          obtain ⟨⟨⟨⟨c1, c2⟩, c3⟩, c4⟩, c5⟩ := hc
          have w3 := am_wd_in c3
          have w4 := am_wd_in c4
          have w5 := am_wd_in c5
          refine W.objInit hx hb hown (hts _ w3.1 w3.2) (hts _ w4.1 w4.2) (hts _ w5.1 w5.2) rfl hml.symm rfl hd (Nat.le_trans c1 hnf) ?_ k
          show 2 * 0 + ((st'.map (am_cv ad vF)).map fun v => v.category).sum + 12 ≤ R.locals
          rw [am_cv_sum hF]
          omega
        · cases h
      · cases h
    · cases h
  case invokestatic x =>
    simp only [am_rd] at h
    split at h
    · rename_i h9
      split at h
      · rename_i z r
        split at h
        · rename_i h8
          cases h
          simp only [am_ckI] at hc
          rw [if_pos (by omega), if_pos h9] at hc
          simp only [am_ckN, Bool.and_eq_true, decide_eq_true_eq] at hc
          obtain ⟨⟨⟨⟨⟨c1, c2⟩, c3⟩, c4⟩, c5⟩, c6⟩ := hc
          have w3 := am_wd_in c3
          have w4 := am_wd_in c4
          have w5 := am_wd_in c5
          have w6 := am_wd_in c6
          exact va_mabs hx hb hml hown (hts _ w3.1 w3.2) (hts _ w4.1 w4.2) (hts _ w5.1 w5.2) (hts _ w6.1 w6.2) (Nat.le_trans c1 hnf) (by rw [am_cv_sum hF]; omega) hcl hsl hd k
        · cases h
      · cases h
    · split at h
      · rename_i h9
        split at h
        · rename_i y z r
          split at h
          · rename_i h8
            cases h
            simp only [am_ckI] at hc
            rw [if_pos (by omega), if_neg (by omega), if_pos h9] at hc
            simp only [am_ckN, Bool.and_eq_true, decide_eq_true_eq] at hc
            obtain ⟨⟨⟨⟨⟨c1, c2⟩, c3⟩, c4⟩, c5⟩, c6⟩ := hc
            have w3 := am_wd_in c3
            have w4 := am_wd_in c4
            have w5 := am_wd_in c5
            have w6 := am_wd_in c6
            exact va_mmax hx hb hml hown (hts _ w3.1 w3.2) (hts _ w4.1 w4.2) (hts _ w5.1 w5.2) (hts _ w6.1 w6.2) (Nat.le_trans c1 hnf) (by rw [am_cv_sum hF]; omega) hcl hsl hd k
          · cases h
        · cases h
      · split at h
        · rename_i h9
          split at h
          · rename_i y z r
            split at h
            · rename_i h8
              cases h
              simp only [am_ckI] at hc
              rw [if_pos (by omega), if_neg (by omega), if_neg (by omega), if_pos h9] at hc
              simp only [am_ckN, Bool.and_eq_true, decide_eq_true_eq] at hc
              obtain ⟨⟨⟨⟨⟨c1, c2⟩, c3⟩, c4⟩, c5⟩, c6⟩ := hc
              have w3 := am_wd_in c3
              have w4 := am_wd_in c4
              have w5 := am_wd_in c5
              have w6 := am_wd_in c6
              exact va_mmin hx hb hml hown (hts _ w3.1 w3.2) (hts _ w4.1 w4.2) (hts _ w5.1 w5.2) (hts _ w6.1 w6.2) (Nat.le_trans c1 hnf) (by rw [am_cv_sum hF]; omega) hcl hsl hd k
            · cases h
          · cases h
        · cases h
  all_goals (simp only [am_rd] at h; try cases h)
end AMRD
