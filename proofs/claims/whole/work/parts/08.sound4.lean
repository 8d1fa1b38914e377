/-! THE PLAIN MACHINE IS SOUND, 4: writes and makings -/
theorem am_aR.store {s : State} {ty : FieldType} {n : Nat} {f : Nat → Value} {cell : Cell} (h : am_aR s ty n f cell) (j : Nat) (v : Value) : am_aR s ty n (updV f j v) (cell.setSlot j v) := by
  obtain ⟨h1, h2, h3, h4⟩ := h
  refine ⟨h1, h2, by rw [k2_slotsz]; exact h3, fun q hq => ?_⟩
  show ((cell.slots.setIfInBounds j v))[q]? = _
  by_cases hj : q = j
  · subst hj
    simp [updV, Nat.lt_of_lt_of_le hq h3.1]
  · rw [Array.getElem?_setIfInBounds_ne (fun z => hj z.symm), h4 q hq]
    simp [updV, hj]
theorem am_aR.to {s : State} {ty : FieldType} {n : Nat} {f g : Nat → Value} {cell : Cell} (h : am_aR s ty n f cell) (hfg : ∀ j, f j = g j) : am_aR s ty n g cell := ⟨h.1, h.2.1, h.2.2.1, fun j hj => by rw [← hfg j]; exact h.2.2.2 j hj⟩
theorem am_aR.new {s : State} {ty : FieldType} {cA : ClassId} (h : ArrOfT s cA ty) (n : Nat) (v : Value) : am_aR s ty n (fun _ => v) (arrV cA n (fun _ => v)) := ⟨h n _, (fun h => by cases h), ⟨Nat.le_of_eq (arrV_size _ _ _).symm, by rw [arrV_size]⟩, fun j hj => arrV_read _ _ hj⟩
section AMWR
variable {p : Program} {l : Launch} {e : Env} {R : Room} {s : State} {m : MethodId} {args : Array Value} {below : List Frame} {meth : Method} {c : Code} {H : Heap} {locs : List Loc} {cells slots : Nat} {Q : State → Prop}
variable {cc : ByteArray} {pc : Nat} {ls : Array Slot} {ad : Nat → Nat} {vF : Value} {D : va_G} {B : Nat} {σ : am_H} {own : String} {ms : List am_M} {init : Bool} {nf nl : Nat}
theorem am_putf_ok (hx : p.tables.exec = Jvm.exec) (hb : c.code = cc) (hB : ∀ a, a < am_top → ad a = B + a) (hown : s.vm.findClass own = some m.cls) (hts : ∀ w ∈ lw_tbl, goodWord w = true → w.before args s = true) (hV : am_vm ad D s) (hR : am_R ad vF D B s σ H) (hS : va_S (am_old B) s.heap H locs) (hin2 : init = true → meth.name = "<init>")
    {x a : Nat} {K : am_K} {fs r : List Value} {v : Value} (hg : am_get σ a = some (.inl (K.1, fs))) (ha : a < am_top) (hl : K.2.1 < fs.length) (hv : am_okv K.2.2.2.2.1 v = true) (hd : decode cc pc = .ok (.putfield x, 3)) (hc : am_ckF own x K = true) (hc2 : am_ckP own init K = true) (hns : K.1 < am_NS)
    (k : ∀ (H1 : Heap) (locs1 : List Loc), am_R ad vF D B s (am_set σ a (.inl (K.1, fs.set K.2.1 v))) H1 → va_S (am_old B) s.heap H1 locs1 → W p l e R s m args below meth c H1 locs1 cells slots Q (F0 m (pc + 3) ls r)) : W p l e R s m args below meth c H locs cells slots Q (F0 m pc ls (am_cv ad vF v :: .ref (ad a) :: r)) := by
  have hrel := (hR.2.2.1 a _ hg).2
  unfold am_ckF at hc
  have hne : K.1 ≠ am_NS := Nat.ne_of_lt hns
  rcases hrel with ⟨-, r', g1, g2, g3⟩ | ⟨-, g1, -⟩
  · have g1 : am_cls[K.1]? = some r' := g1
    have g2 : fs.length = r'.2.2 := g2
    rw [if_neg hne, g1] at hc
    unfold am_ckP at hc2
    rw [g1] at hc2
    simp only [Bool.and_eq_true, decide_eq_true_eq] at hc hc2
    obtain ⟨⟨c1, c2⟩, c3⟩ := hc
    obtain ⟨c4, c5⟩ := hc2
    have hK : va_K D am_cls [] s := ⟨hV.1, fun k q h => by simp at h⟩
    have htw : ∀ w ∈ u_ws r'.1 r'.2.1 r'.2.2, w.before args s = true := fun w hw => hts w (am_cls_ws _ _ g1 w hw).1 (am_cls_ws _ _ g1 w hw).2
    obtain ⟨ty, hty, hnm, -⟩ := am_cls_ty _ _ g1
    have hap := va_apart (own := own) htw (fun _ h => h) ty hty hnm hK g1
    rw [hty _ c1] at c5
    have c5 : am_tc (ty K.2.1) = K.2.2.2.2.1 := by simpa using c5
    obtain ⟨hn, hfit⟩ := am_okv_ok (ad := ad) (vF := vF) hv c5
    obtain ⟨cell, q1, q2, q3, q4⟩ := g3
    obtain ⟨hSl, hfc, kC, hkC, hkind⟩ := hV.1 _ _ g1
    obtain ⟨cf, kf, fi, f, hi, hsl⟩ := hSl _ c1
    have hst := (u_facts hfc hkC (u_lays htw (fun _ h => h) c1) hi).1
    have hl' : K.2.1 < (fs.map (am_cv ad vF)).length := by rw [List.length_map]; exact hl
    have hi' : s.fieldFound? r'.1 (r'.2.1 K.2.1).2.1 (r'.2.1 K.2.1).2.2.1 = some (cf, kf, fi, f) := by rw [← c2]; exact hi
    have fin : ∀ H' : Heap, H'[ad a]? = some (cell.setSlot f.slot (am_cv ad vF v)) → H'.size = H.size → (∀ q, q ≠ ad a → H'[q]? = H[q]?) → W p l e R s m args below meth c H' (locs ++ [⟨ad a, f.slot⟩]) cells slots Q (F0 m (pc + 3) ls r) := by
      intro H' e1 e2 e3
      rw [hsl] at e1 ⊢
      refine k H' _ (hR.put hB hg ha e2 e3 (Or.inl ⟨ha, r', g1, by rw [List.length_set]; exact g2, ?_⟩)) (hS.put e2 e3 (show B ≤ ad a by rw [hB a ha]; exact Nat.le_add_right B a))
      rw [List.map_set]
      exact t_OB.to (V := updV (vp_V (fs.map (am_cv ad vF))) K.2.1 (am_cv ad vF v)) ⟨_, e1, q2, q3, t_set q4 hap c1 _⟩ (fun j _ => vp_updV_set hl' _ j)
    by_cases hfin : (r'.2.1 K.2.1).2.2.2 = true
    · rw [if_pos hfin] at c4
      simp only [Bool.and_eq_true, decide_eq_true_eq, beq_iff_eq] at c4
      obtain ⟨⟨d1, d2⟩, d3⟩ := c4
      rw [if_pos d3] at c3
      have hw := am_wd_in c3
      have hlay := htw _ (u_in_lay c1)
      unfold u_lay at hlay
      rw [if_pos hfin] at hlay
      have hcf : m.cls = cf := by
        obtain ⟨_, _, c', _, _, _, -, -, hf', -, -, -, hown2, -⟩ := Cond.laysFinal_spec hlay
        have e1 : c' = cf := by have := hi.symm.trans hf'; simp at this; exact this.1.symm
        rw [c2, d2] at hown2
        rw [← e1]; exact Option.some.inj (hown.symm.trans hown2)
      have h6 := u_fits hfc hkC hkind (Or.inr hlay) hi (hty _ c1) hn hfit
      exact W.putFinK hx hb hown (hts _ hw.1 hw.2) hi' hst hcf (hin2 d1) (by rw [q2]; exact h6) q1 q3 (by rw [hsl]; exact k2_hasslot (q4 _ c1)) rfl rfl hd fin
    · have hlay := htw _ (u_in_lay c1)
      unfold u_lay at hlay
      rw [if_neg hfin] at hlay
      have h6 := u_store hfc hkC hkind hlay hi (hty _ c1) hn hfit
      split at c3
      · have hw := am_wd_in c3
        exact W.putK hx hb (f := f) ⟨hown, hts _ hw.1 hw.2, ⟨_, _, _, hi'⟩, hst⟩ (by rw [q2]; exact h6) q1 q3 (by rw [hsl]; exact k2_hasslot (q4 _ c1)) rfl rfl hd fin
      · have c3 := of_decide_eq_true c3
        exact va_WputK hx hb (f := f) hown (va_Nw.use rfl (hV.2.1 _ (List.mem_of_getElem? c3))) hi' hst (by rw [q2]; exact h6) q1 q3 (by rw [hsl]; exact k2_hasslot (q4 _ c1)) rfl rfl hd fin
  · exact absurd g1 hne
theorem am_set_c (σ : am_H) (a : Nat) (c : am_C) : (am_set σ a c).1 - σ.1 = 0 ∧ (am_set σ a c).2.1 - σ.2.1 = 0 := ⟨Nat.sub_self _, Nat.sub_self _⟩
theorem am_new_c (σ : am_H) (n : Nat) (c : am_C) : (am_new σ n c).1 - σ.1 = 1 ∧ (am_new σ n c).2.1 - σ.2.1 = n := ⟨by simp [am_new], by simp [am_new]⟩
set_option maxHeartbeats 4000000 in
theorem am_wr_ok (hx : p.tables.exec = Jvm.exec) (hb : c.code = cc) (hB : ∀ a, a < am_top → ad a = B + a) (hown : s.vm.findClass own = some m.cls) (hts : ∀ w ∈ lw_tbl, goodWord w = true → w.before args s = true) (hV : am_vm ad D s) (hR : am_R ad vF D B s σ H) (hS : va_S (am_old B) s.heap H locs) (hin2 : init = true → meth.name = "<init>")
    {i : Instr} {K : am_K} {st : List Value} {q : List Value × am_H} (h : am_wr am_dfl i K st σ = some q) (hd : decode cc pc = .ok (i, am_len i)) (hc : am_ckI ms own init nf nl pc i K = true) (hcells : cells + (q.2.1 - σ.1) ≤ R.cells) (hslots : slots + (q.2.2.1 - σ.2.1) ≤ R.slots)
    (k : ∀ (H1 : Heap) (locs1 : List Loc), am_R ad vF D B s q.2 H1 → va_S (am_old B) s.heap H1 locs1 → W p l e R s m args below meth c H1 locs1 (cells + (q.2.1 - σ.1)) (slots + (q.2.2.1 - σ.2.1)) Q (F0 m (pc + am_len i) ls (q.1.map (am_cv ad vF)))) : W p l e R s m args below meth c H locs cells slots Q (F0 m pc ls (st.map (am_cv ad vF))) := by
  have hold : ∀ {a : Nat}, a < am_top → am_old B (ad a) := fun {a} ha => by rw [hB a ha]; exact Nat.le_add_right B a
  cases i
  case putfield x =>
    simp only [am_wr] at h
    split at h
    · rename_i v a r
      split at h
      · rename_i cj fs hg
        split at h
        · rename_i hcc
          obtain ⟨rfl, h2, h3, h4⟩ := hcc
          cases h
          rw [(am_set_c _ _ _).1, (am_set_c _ _ _).2] at k
          simp only [am_ckI, Bool.and_eq_true, decide_eq_true_eq] at hc
          exact am_putf_ok hx hb hB hown hts hV hR hS hin2 hg h2 h3 h4 hd hc.1.2 hc.2 hc.1.1 k
        · cases h
      · cases h
    · cases h
  case iastore =>
    simp only [am_wr] at h
    split at h
    · rename_i x j a r
      split at h
      · rename_i k0 n f hg
        split at h
        · rename_i hk
          obtain ⟨rfl, ha⟩ := hk
          split at h
          · cases h
          · rename_i hin
            cases h
            rw [(am_set_c _ _ _).1, (am_set_c _ _ _).2] at k
            obtain ⟨cell, g1, g2⟩ := (hR.2.2.1 a _ hg).2
            have g4 : n ≤ cell.slots.size ∧ cell.slots.size.toInt32 = Int32.ofNat n := g2.2.2.1
            refine W.iast hx hb g1 g2.1 g2.2.1 (fun z => hin (z.imp id (fun y => Nat.le_trans g4.1 y))) rfl rfl hd fun H1 e1 e2 e3 => ?_
            refine k H1 _ (hR.put hB hg ha e2 e3 ⟨_, e1, (g2.store _ _).to fun y => ?_⟩) (hS.put e2 e3 (hold ha))
            by_cases hy : y = j.toNatClampNeg <;> simp [updV, upd, hy]
        · cases h
      · cases h
    · cases h
  case bastore =>
    simp only [am_wr] at h
    split at h
    · rename_i x j a r
      split at h
      · rename_i k0 n f hg
        split at h
        · rename_i hk
          obtain ⟨rfl, ha, hx01⟩ := hk
          split at h
          · cases h
          · rename_i hin
            cases h
            rw [(am_set_c _ _ _).1, (am_set_c _ _ _).2] at k
            obtain ⟨cell, g1, g2⟩ := (hR.2.2.1 a _ hg).2
            have g4 : n ≤ cell.slots.size ∧ cell.slots.size.toInt32 = Int32.ofNat n := g2.2.2.1
            have hnar : narrow .boolean (.int x) = .int x := by rcases hx01 with rfl | rfl <;> decide +kernel
            refine W.zast hx hb g1 g2.1 g2.2.1 (fun z => hin (z.imp id (fun y => Nat.le_trans g4.1 y))) rfl rfl hd fun H1 e1 e2 e3 => ?_
            rw [hnar] at e1
            refine k H1 _ (hR.put hB hg ha e2 e3 ⟨_, e1, (g2.store _ _).to fun y => ?_⟩) (hS.put e2 e3 (hold ha))
            by_cases hy : y = j.toNatClampNeg <;> simp [updV, upd, hy]
        · cases h
      · cases h
    · cases h
  case lastore =>
    simp only [am_wr] at h
    split at h
    · rename_i x j a r
      split at h
      · rename_i n f hg
        split at h
        · rename_i ha
          split at h
          · cases h
          · rename_i hin
            cases h
            rw [(am_set_c _ _ _).1, (am_set_c _ _ _).2] at k
            obtain ⟨cell, g1, g2⟩ := (hR.2.2.1 a _ hg).2
            have g4 : n ≤ cell.slots.size ∧ cell.slots.size.toInt32 = Int32.ofNat n := g2.2.2.1
            refine W.last hx hb g1 g2.1 g2.2.1 (fun z => hin (z.imp id (fun y => Nat.le_trans g4.1 y))) rfl rfl hd fun H1 e1 e2 e3 => ?_
            refine k H1 _ (hR.put hB hg ha e2 e3 ⟨_, e1, (g2.store _ _).to fun y => ?_⟩) (hS.put e2 e3 (hold ha))
            by_cases hy : y = j.toNatClampNeg <;> simp [updV, vp_updL, hy]
        · cases h
      · cases h
    · cases h
  case aastore =>
    simp only [am_wr] at h
    split at h
    · rename_i y j a r
      split at h
      · rename_i ci n f cj vs hg hgy
        split at h
        · rename_i hk
          obtain ⟨rfl, ha, hyt⟩ := hk
          split at h
          · cases h
          · rename_i hin
            cases h
            rw [(am_set_c _ _ _).1, (am_set_c _ _ _).2] at k
            obtain ⟨cell, r', kA, comp, g1, g6, g2, g7, g8, g9, g10⟩ := (hR.2.2.1 a _ hg).2
            have g6 : am_cls[cj]? = some r' := g6
            have g4 : n ≤ cell.slots.size ∧ cell.slots.size.toInt32 = Int32.ofNat n := g2.2.2.1
            rcases (hR.2.2.1 y _ hgy).2 with ⟨-, r2, f1, f2, cellV, q1, q2, q3, -⟩ | ⟨f0, -⟩
            · have hcls := (hV.1 _ _ g6).2
              have hcomp : comp = D.1 cj := Option.some.inj (g10.symm.trans hcls.1)
              subst hcomp
              have hasg := va_assign hcls
              obtain ⟨kC, hkC, -⟩ := hcls.2
              have q2 : cellV.cls = D.1 cj := q2
              refine W.aast hx hb g1 (fun z hz => by rw [g7] at hz; cases hz) g2.2.1 g8 g9 rfl hkC ⟨fun z => hin (Or.inl z), Nat.lt_of_lt_of_le (Nat.not_le.mp fun z => hin (Or.inr z)) g4.1⟩ q1 (fun z hz => by rw [q3] at hz; cases hz) (by rw [q2]; exact hkC) (by rw [q2]; exact hasg) rfl rfl hd fun H1 e1 e2 e3 => ?_
              refine k H1 _ (hR.put hB hg ha e2 e3 ⟨_, r', kA, D.1 cj, e1, g6, (g2.store _ _).to fun z => ?_, g7, g8, g9, g10⟩) (hS.put e2 e3 (hold ha))
              by_cases hz : z = j.toNatClampNeg <;> simp [updV, va_up, va_rf, hz]
            · exact absurd f0 (Nat.not_le.mpr hyt)
        · cases h
      · cases h
    · cases h
  case new x =>
    simp only [am_wr] at h
    split at h
    · rename_i fs hfs
      split at h
      · rename_i ht
        cases h
        rw [(am_new_c _ _ _).1, (am_new_c _ _ _).2] at k
        rw [(am_new_c _ _ _).1] at hcells
        rw [(am_new_c _ _ _).2] at hslots
        simp only [am_ckI] at hc
        split at hc
        · rename_i r' w g1 g2
          simp only [Bool.and_eq_true] at hc
          obtain ⟨⟨c1, c2⟩, c3⟩ := hc
          have w1 := am_wd_in c1
          have w2 := am_wd_in c2
          have w3 := am_wd_in c3
          have htw : ∀ w ∈ u_ws r'.1 r'.2.1 r'.2.2, w.before args s = true := fun w hw => hts w (am_cls_ws _ _ g1 w hw).1 (am_cls_ws _ _ g1 w hw).2
          obtain ⟨ty, hty, hnm, fs', hfs', hlen, hdf⟩ := am_cls_ty _ _ g1
          cases hfs.symm.trans hfs'
          rw [hlen] at k hslots
          have hKn := hV.1 _ _ g1
          refine W.newcK hx hb hown (hts _ w1.1 w1.2) (hts _ w2.1 w2.2) (hts _ w3.1 w3.2) rfl hd hcells hslots hKn.2.1 rfl fun H1 kC hkC e1 z1 o1 => ?_
          have had : ad σ.1 = H.size := by rw [hB _ ht, hR.1]
          have hk := k H1 locs (hR.make hB ht z1 o1 (Or.inl ⟨ht, r', g1, hlen, ?_⟩)) ⟨Nat.le_trans hS.1 (by omega), fun y h1 h2 => (o1 y (Nat.lt_of_lt_of_le h1 hS.1)).trans (hS.2.1 y h1 h2), hS.2.2⟩
          · have hk : W p l e R s m args below meth c H1 locs (cells + 1) (slots + r'.2.2) Q (F0 m (pc + 3) ls (.ref (ad σ.1) :: st.map (am_cv ad vF))) := hk
            rw [had] at hk
            exact hk
          · show t_OB (ad σ.1) _ _ _ _ (vp_V (fs.map (am_cv ad vF)))
            rw [am_dfl_cv _ _ hfs, had]
            exact (u_born ty htw (fun _ h => h) hKn hkC e1 hty).to hdf
        · cases hc
      · cases h
    · cases h
  case newarray t =>
    simp only [am_ckI] at hc
    have w1 := am_wd_in hc
    simp only [am_wr] at h
    split at h
    · rename_i n r
      split at h
      · cases h
      · rename_i hcc
        have hn : ¬ n < 0 := fun z => hcc (Or.inl z)
        have hn1 : n.toNatClampNeg ≤ 1000000 := Nat.not_lt.mp fun z => hcc (Or.inr (Or.inl z))
        have ht : σ.1 < am_top := Nat.not_le.mp fun z => hcc (Or.inr (Or.inr z))
        have had : ad σ.1 = H.size := by rw [hB _ ht, hR.1]
        cases t
        case int =>
          cases h
          rw [(am_new_c _ _ _).1, (am_new_c _ _ _).2] at k
          rw [(am_new_c _ _ _).1] at hcells
          rw [(am_new_c _ _ _).2] at hslots
          refine va_newaK hx hb (hts _ w1.1 w1.2) rfl hd rfl hn rfl (by show n.toNatClampNeg * 4 ≤ 536870912; omega) hcells hslots rfl fun H1 cA e1 z1 o1 hAr _ => ?_
          have hk := k H1 locs (hR.make hB ht z1 o1 ⟨arrV cA n.toNatClampNeg (fun _ => .int 0), by rw [had]; exact e1, am_aR.new (ty := .int) hAr n.toNatClampNeg (.int 0)⟩) ⟨Nat.le_trans hS.1 (by omega), fun y h1 h2 => (o1 y (Nat.lt_of_lt_of_le h1 hS.1)).trans (hS.2.1 y h1 h2), hS.2.2⟩
          have hk : W p l e R s m args below meth c H1 locs (cells + 1) (slots + n.toNatClampNeg) Q (F0 m (pc + 2) ls (.ref (ad σ.1) :: r.map (am_cv ad vF))) := hk
          rw [had] at hk
          exact hk
        case boolean =>
          cases h
          rw [(am_new_c _ _ _).1, (am_new_c _ _ _).2] at k
          rw [(am_new_c _ _ _).1] at hcells
          rw [(am_new_c _ _ _).2] at hslots
          refine va_newaK hx hb (hts _ w1.1 w1.2) rfl hd rfl hn rfl (by show n.toNatClampNeg * 1 ≤ 536870912; omega) hcells hslots rfl fun H1 cA e1 z1 o1 hAr _ => ?_
          have hk := k H1 locs (hR.make hB ht z1 o1 ⟨arrV cA n.toNatClampNeg (fun _ => .int 0), by rw [had]; exact e1, am_aR.new (ty := .boolean) hAr n.toNatClampNeg (.int 0)⟩) ⟨Nat.le_trans hS.1 (by omega), fun y h1 h2 => (o1 y (Nat.lt_of_lt_of_le h1 hS.1)).trans (hS.2.1 y h1 h2), hS.2.2⟩
          have hk : W p l e R s m args below meth c H1 locs (cells + 1) (slots + n.toNatClampNeg) Q (F0 m (pc + 2) ls (.ref (ad σ.1) :: r.map (am_cv ad vF))) := hk
          rw [had] at hk
          exact hk
        case long =>
          cases h
          rw [(am_new_c _ _ _).1, (am_new_c _ _ _).2] at k
          rw [(am_new_c _ _ _).1] at hcells
          rw [(am_new_c _ _ _).2] at hslots
          refine va_newaK hx hb (hts _ w1.1 w1.2) rfl hd rfl hn rfl (by show n.toNatClampNeg * 8 ≤ 536870912; omega) hcells hslots rfl fun H1 cA e1 z1 o1 hAr _ => ?_
          have hk := k H1 locs (hR.make hB ht z1 o1 ⟨arrV cA n.toNatClampNeg (fun _ => .long 0), by rw [had]; exact e1, am_aR.new (ty := .long) hAr n.toNatClampNeg (.long 0)⟩) ⟨Nat.le_trans hS.1 (by omega), fun y h1 h2 => (o1 y (Nat.lt_of_lt_of_le h1 hS.1)).trans (hS.2.1 y h1 h2), hS.2.2⟩
          have hk : W p l e R s m args below meth c H1 locs (cells + 1) (slots + n.toNatClampNeg) Q (F0 m (pc + 2) ls (.ref (ad σ.1) :: r.map (am_cv ad vF))) := hk
          rw [had] at hk
          exact hk
        all_goals cases h
    · cases h
  case anewarray x =>
    simp only [am_ckI] at hc
    split at hc
    · rename_i r' g1
      simp only [Bool.and_eq_true, decide_eq_true_eq] at hc
      have w1 := am_wd_in hc.1
      simp only [am_wr] at h
      split at h
      · rename_i n r
        split at h
        · cases h
        · rename_i hcc
          have hn : ¬ n < 0 := fun z => hcc (Or.inl z)
          have hn1 : n.toNatClampNeg ≤ 1000000 := Nat.not_lt.mp fun z => hcc (Or.inr (Or.inl z))
          have ht : σ.1 < am_top := Nat.not_le.mp fun z => hcc (Or.inr (Or.inr z))
          have had : ad σ.1 = H.size := by rw [hB _ ht, hR.1]
          cases h
          rw [(am_new_c _ _ _).1, (am_new_c _ _ _).2] at k
          rw [(am_new_c _ _ _).1] at hcells
          rw [(am_new_c _ _ _).2] at hslots
          refine W.anew hx hb hown (hts _ w1.1 w1.2) (va_AO.use (hV.2.2.1 _ hc.2)) rfl hd rfl hn (by omega) hcells hslots fun cA kA comp f1 f2 f3 f4 => ?_
          generalize hH1 : H.push ({ cls := cA, slots := Array.replicate n.toNatClampNeg .null, vm := .none } : Cell) = H1
          have z1 : H1.size = H.size + 1 := by rw [← hH1, Array.size_push]
          have e1 : H1[H.size]? = some (arrV cA n.toNatClampNeg (fun _ => .null)) := by rw [← hH1, Array.getElem?_push_size, ← arrV_new]
          have o1 : ∀ q : Nat, q < H.size → H1[q]? = H[q]? := fun q hq => by rw [← hH1, Array.getElem?_push, if_neg (Nat.ne_of_lt hq)]
          have hAr : ArrOfT s cA (.object r'.1) := fun N z => ⟨(fun k h => by cases h), kA, f2, comp, f3⟩
          have hk := k H1 locs (hR.make hB ht z1 o1 ⟨_, r', kA, comp, by rw [had]; exact e1, g1, am_aR.new hAr _ _, rfl, f2, f3, f4⟩) ⟨Nat.le_trans hS.1 (by omega), fun y h1 h2 => (o1 y (Nat.lt_of_lt_of_le h1 hS.1)).trans (hS.2.1 y h1 h2), hS.2.2⟩
          have hk : W p l e R s m args below meth c H1 locs (cells + 1) (slots + n.toNatClampNeg) Q (F0 m (pc + 3) ls (.ref (ad σ.1) :: r.map (am_cv ad vF))) := hk
          rw [had] at hk
          exact hk
      · cases h
    · cases hc
  all_goals (simp only [am_wr] at h; try cases h)
end AMWR
