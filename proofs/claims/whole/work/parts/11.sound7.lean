/-! THE PLAIN MACHINE IS SOUND, 7: every run -/
section AMS
variable {p : Program} {l : Launch} {e : Env} {R : Room} {s : State} {m : MethodId} {args : Array Value} {below : List Frame} {meth : Method} {c : Code} {H : Heap} {locs : List Loc} {cells slots : Nat} {Q : State → Prop}
variable {pc : Nat} {ls : Array Slot} {ad : Nat → Nat} {vF : Value} {D : va_G} {B : Nat}
theorem am_hws {M' : am_M} (hts : ∀ w ∈ lw_tbl, goodWord w = true → w.before args s = true) {n : Nat} (hcd : am_wd n (.code M'.1 M'.2.1 M'.2.2.1 M'.2.2.2.1) = true) : ∀ w ∈ am_ws M', ∀ (a' : Array Value) (U : State), s.WarmedH U.vm → w.before a' U = true := by
  intro w hw a' U hW
  have hg : w ∈ lw_tbl ∧ goodWord w = true := by
    rcases List.mem_cons.mp hw with rfl | h
    · exact am_wd_in hcd
    · exact List.mem_filter.mp h
  exact word_at hW (good_of_word hg.2) (hts w hg.1 hg.2)
theorem am_desc {d : String} {n : Nat} (h : (match parseMethodDescriptor d with | some q => q.parameters.length == n | none => false) = true) : ∀ sig, parseMethodDescriptor d = some sig → n = sig.parameters.length := by
  intro sig hs
  rw [hs] at h
  exact (by simpa using h : sig.parameters.length = n).symm
set_option maxHeartbeats 4000000 in
theorem am_call_ok {ms : List am_M} {f : Nat} (hF : vF.category = 1) (hckm : ∀ M ∈ ms, am_ckM ms M = true) (ih : am_Snd l ms ad vF D B f) {M M' : am_M} (C : am_Fr ad D M p R s m args meth c) {i : Instr} {K : am_K} {st st' as : List Value} {σ σ1 : am_H} {j' : Nat} {r1 : Option Value} (hcl : am_cl i K st σ = some (j', as, st')) (hd : decode M.2.1 pc = .ok (i, am_len i)) {init : Bool} (hc : am_ckI ms M.1.cls init M.2.2.2.2.2.1 M.2.2.2.2.2.2.1 pc i K = true) (h9 : i = .invokespecial 0 ∨ ∀ x, i = .invokespecial x → K.1 ≠ 99999)
    (hM' : ms[j']? = some M') (hlen : (am_in M'.2.2.1 as).length = M'.2.2.1) (hrun : am_run am_dfl ms f j' 0 (am_in M'.2.2.1 as) [] σ = some (r1, σ1)) (hls : ls.size = M.2.2.1) (hR : am_R ad vF D B s σ H) (hS : va_S (am_old B) s.heap H locs) (hcells : cells + (σ1.1 - σ.1) ≤ R.cells) (hslots : slots + (σ1.2.1 - σ.2.1) ≤ R.slots) (h99 : j' ≤ 99990)
    (k : ∀ (H1 : Heap) (locs1 : List Loc), am_R ad vF D B s σ1 H1 → va_S (am_old B) s.heap H1 locs1 → W p l e R s m args below meth c H1 locs1 (cells + (σ1.1 - σ.1)) (slots + (σ1.2.1 - σ.2.1)) Q (F0 m (pc + 3) ls ((r1.toList ++ st').map (am_cv ad vF)))) :
    W p l e R s m args below meth c H locs cells slots Q (F0 m pc ls (st.map (am_cv ad vF))) := by
  obtain ⟨hx, hb, hml, hown, hts, hV, hin2, hnf, hnl⟩ := C
  have hout : ∀ (H1 : Heap) (locs1 : List Loc), am_R ad vF D B s σ1 H1 → va_S (am_old B) s.heap H1 locs1 → W p l e R s m args below meth c H1 locs1 (cells + (σ1.1 - σ.1)) (slots + (σ1.2.1 - σ.2.1)) Q (F0 m (pc + 3) ls ((r1.map (am_cv ad vF)).toList ++ st'.map (am_cv ad vF))) := by
    intro H1 locs1 a1 a2
    have h := k H1 locs1 a1 a2
    have he : (r1.toList ++ st').map (am_cv ad vF) = (r1.map (am_cv ad vF)).toList ++ st'.map (am_cv ad vF) := by
      rw [List.map_append]
      cases r1 <;> rfl
    rw [he] at h
    exact h
  have hsize : ls.size = M.2.2.1 := hls
  have hPc : ∀ U : State, U.heap = H → s.WarmedH U.vm → am_P ad vF D B as σ (as.map (am_cv ad vF)).toArray U := fun U hU hW => ⟨rfl, hV.warm hW, by rw [hU]; exact hR.moved hW.alike⟩
  have hfix : CallFix p m c M.2.1 M.2.2.1 s args [] M.1.cls := ⟨hx, hb, hml, hown, fun w h => by cases h⟩
  have hW' := hckm M' (List.mem_of_getElem? hM')
  unfold am_ckM at hW'
  rw [Bool.and_eq_true] at hW'
  have hW' := hW'.1
  unfold am_ckW at hW'
  cases i
  case invokestatic x =>
    simp only [am_cl] at hcl
    split at hcl
    · rename_i hk
      cases hcl
      simp only [am_ckI, if_neg (Nat.not_lt.mpr h99), hM', am_ckC, Bool.and_eq_true, decide_eq_true_eq] at hc
      obtain ⟨⟨⟨⟨c1, c2⟩, c8⟩, c9⟩, c0⟩ := hc
      have c0 : M'.2.2.2.2.2.2.2.1 = 1 := by simpa using c0
      rw [if_neg (by rw [c0]; decide), if_pos c0] at hW'
      simp only [Bool.and_eq_true, decide_eq_true_eq] at hW'
      obtain ⟨⟨⟨⟨⟨c3, c4⟩, c5⟩, c6⟩, c7⟩, c10⟩ := hW'
      have hMet := am_met hF ih hM' c5 hlen hrun
      have w3 := am_wd_in c3
      have w4 := am_wd_in c4
      have w10 := am_wd_in c10
      have hst0 : (F0 m pc ls (st.map (am_cv ad vF))).stack = (((st.take K.2.1).reverse.map (am_cv ad vF))).reverse ++ (st.drop K.2.1).map (am_cv ad vF) := by
        show st.map (am_cv ad vF) = _
        rw [List.map_reverse, List.reverse_reverse, ← List.map_append, List.take_append_drop]
      have hn : ((st.take K.2.1).reverse.map (am_cv ad vF)).length = K.2.1 := by simp; omega
      have hW : 2 * (F0 m pc ls (st.map (am_cv ad vF))).monitorRoom + (((st.drop K.2.1).map (am_cv ad vF)).map fun v => v.category).sum ≤ 8 := by
        show 2 * 0 + _ ≤ 8
        rw [am_cv_sum hF]
        omega
      split at c9
      · have w9 := am_wd_in c9
        exact am_cont (va_runS (bytes := M'.2.1) (maxL := M'.2.2.1) (ret := M'.2.2.2.1) hfix hMet ⟨⟨rfl, rfl, Nat.le_trans c1 hnf, Nat.le_trans c2 hnl, am_hws hts c3, List.mem_cons_self, hts _ w3.1 w3.2, hts _ w4.1 w4.2, ⟨c6, c7⟩, am_desc c8, hts _ w9.1 w9.2⟩, hts _ w10.1 w10.2⟩ ⟨am_P_blind, hPc⟩ rfl hn hsize hst0 hW hd ⟨hcells, hslots⟩) hS hout
      · have c9 := of_decide_eq_true c9
        exact am_cont (va_runSN (bytes := M'.2.1) (maxL := M'.2.2.1) (ret := M'.2.2.2.1) hfix hMet ⟨⟨⟨rfl, rfl, Nat.le_trans c1 hnf, Nat.le_trans c2 hnl, am_hws hts c3, List.mem_cons_self⟩, hts _ w3.1 w3.2, hts _ w4.1 w4.2, ⟨c6, c7⟩, am_desc c8, va_Nw.use rfl (hV.2.1 _ (List.mem_of_getElem? c9))⟩, hts _ w10.1 w10.2, trivial⟩ ⟨am_P_blind, hPc⟩ rfl hn hsize hst0 hW hd ⟨hcells, hslots⟩) hS hout
    · cases hcl
  case invokespecial x =>
    simp only [am_cl] at hcl
    split at hcl
    · rename_i b r hdrop
      split at hcl
      · rename_i hk
        cases hcl
        simp only [am_ckI, if_neg (show ¬ K.1 = 99999 by omega), hM', am_ckC, Bool.and_eq_true, decide_eq_true_eq] at hc
        obtain ⟨⟨⟨⟨c1, c2⟩, c8⟩, c9⟩, c0⟩ := hc
        have c0 : M'.2.2.2.2.2.2.2.1 = 3 := by simpa using c0
        rw [if_neg (by rw [c0]; decide), if_neg (by rw [c0]; decide), if_neg (by rw [c0]; decide)] at hW'
        simp only [Bool.and_eq_true, decide_eq_true_eq] at hW'
        obtain ⟨⟨⟨⟨⟨c3, c4⟩, c5⟩, c6⟩, c7⟩, c10, c11, c12⟩ := hW'
        have hMet := am_met hF ih hM' c5 hlen hrun
        have w3 := am_wd_in c3
        have w4 := am_wd_in c4
        have w10 := am_wd_in c10
        rw [c12] at w3
        have hst0 : (F0 m pc ls (st.map (am_cv ad vF))).stack = (((st.take K.2.1).reverse.map (am_cv ad vF))).reverse ++ .ref (ad b) :: st'.map (am_cv ad vF) := by
          show st.map (am_cv ad vF) = _
          rw [List.map_reverse, List.reverse_reverse]
          have he : Value.ref (ad b) :: st'.map (am_cv ad vF) = (st.drop K.2.1).map (am_cv ad vF) := by rw [hdrop]; rfl
          rw [he, ← List.map_append, List.take_append_drop]
        have hlt : K.2.1 < st.length := by
          rcases Nat.lt_or_ge K.2.1 st.length with h | h
          · exact h
          · rw [List.drop_eq_nil_of_le h] at hdrop; cases hdrop
        have hn : ((st.take K.2.1).reverse.map (am_cv ad vF)).length = K.2.1 := by simp; omega
        have hW : 2 * (F0 m pc ls (st.map (am_cv ad vF))).monitorRoom + ((st'.map (am_cv ad vF)).map fun v => v.category).sum ≤ 8 := by
          show 2 * 0 + _ ≤ 8
          rw [am_cv_sum hF]
          omega
        have hcode : Cond.code M'.1 M'.2.1 M'.2.2.1 none ∈ am_ws M' := by
          unfold am_ws
          rw [c12]
          exact List.mem_cons_self
        split at c9
        · have w9 := am_wd_in c9
          exact am_cont (va_runI (bytes := M'.2.1) (maxL := M'.2.2.1) hfix hMet ⟨⟨rfl, rfl, Nat.le_trans c1 hnf, Nat.le_trans c2 hnl, am_hws hts c3, hcode, hts _ w3.1 w3.2, hts _ w4.1 w4.2, ⟨c6, c7⟩, am_desc c8, hts _ w9.1 w9.2⟩, c11, hts _ w10.1 w10.2⟩ ⟨am_P_blind, hPc⟩ rfl hn hsize hst0 hW hd ⟨hcells, hslots⟩) hS hout
        · have c9 := of_decide_eq_true c9
          exact am_cont (va_runIN (bytes := M'.2.1) (maxL := M'.2.2.1) hfix hMet ⟨⟨⟨rfl, rfl, Nat.le_trans c1 hnf, Nat.le_trans c2 hnl, am_hws hts c3, hcode⟩, hts _ w3.1 w3.2, hts _ w4.1 w4.2, ⟨c6, c7⟩, am_desc c8, va_Nw.use rfl (hV.2.1 _ (List.mem_of_getElem? c9))⟩, c11, hts _ w10.1 w10.2⟩ ⟨am_P_blind, hPc⟩ rfl hn hsize hst0 hW hd ⟨hcells, hslots⟩) hS hout
      · cases hcl
    · cases hcl
  case invokevirtual x =>
    simp only [am_cl] at hcl
    split at hcl
    · rename_i b r hdrop
      split at hcl
      · rename_i cj fs hg
        split at hcl
        · rename_i hk
          cases hcl
          simp only [am_ckI, hM', am_ckC, Bool.and_eq_true, decide_eq_true_eq] at hc
          obtain ⟨⟨⟨⟨⟨c1, c2⟩, c8⟩, c9⟩, c0⟩, c12⟩ := hc
          have c0 : M'.2.2.2.2.2.2.2.1 = 0 := by simpa using c0
          rw [if_neg (by rw [c0]; decide), if_neg (by rw [c0]; decide), if_pos c0] at hW'
          simp only [Bool.and_eq_true, decide_eq_true_eq] at hW'
          obtain ⟨⟨⟨⟨⟨c3, c4⟩, c5⟩, c6⟩, c7⟩, c10, c11⟩ := hW'
          have hMet := am_met hF ih hM' c5 hlen hrun
          have w3 := am_wd_in c3
          have w4 := am_wd_in c4
          have w10 := am_wd_in c10
          have w11 := am_wd_in c11
          have hst0 : (F0 m pc ls (st.map (am_cv ad vF))).stack = (((st.take K.2.1).reverse.map (am_cv ad vF))).reverse ++ .ref (ad b) :: st'.map (am_cv ad vF) := by
            show st.map (am_cv ad vF) = _
            rw [List.map_reverse, List.reverse_reverse]
            have he : Value.ref (ad b) :: st'.map (am_cv ad vF) = (st.drop K.2.1).map (am_cv ad vF) := by rw [hdrop]; rfl
            rw [he, ← List.map_append, List.take_append_drop]
          have hlt : K.2.1 < st.length := by
            rcases Nat.lt_or_ge K.2.1 st.length with h | h
            · exact h
            · rw [List.drop_eq_nil_of_le h] at hdrop; cases hdrop
          have hn : ((st.take K.2.1).reverse.map (am_cv ad vF)).length = K.2.1 := by simp; omega
          have hW : 2 * (F0 m pc ls (st.map (am_cv ad vF))).monitorRoom + ((st'.map (am_cv ad vF)).map fun v => v.category).sum ≤ 8 := by
            show 2 * 0 + _ ≤ 8
            rw [am_cv_sum hF]
            omega
          have hrecv : ∃ cellB : Cell, H[ad b]? = some cellB ∧ cellB.vm.isStatics = false ∧ s.vm.findClass M'.1.cls = some cellB.cls := by
            have hcj : cj = K.2.2.2.2.1 := hk.1
            rw [← hcj] at c12
            rcases (hR.2.2.1 b _ hg).2 with ⟨-, r', g1, g2, cell, q1, q2, q3, -⟩ | ⟨-, g1, v0, v1, -, ⟨cell, q1, q2, q3, -⟩, -⟩
            · have g1 : am_cls[cj]? = some r' := g1
              have hne : cj ≠ am_NS := by
                intro hh
                rw [hh, am_NS_none] at g1
                cases g1
              rw [if_neg hne, g1] at c12
              have c12 : M'.1.cls = r'.1 := by simpa using c12
              refine ⟨cell, q1, by rw [q3]; rfl, ?_⟩
              rw [c12, q2]
              exact (hV.1 _ _ g1).2.1
            · have g1 : cj = am_NS := g1
              rw [if_pos g1] at c12
              have c12 : M'.1.cls = "java/lang/String" := by simpa using c12
              exact ⟨cell, q1, q2, by rw [c12]; exact q3⟩
          split at c9
          · have w9 := am_wd_in c9
            exact am_cont (va_runV (bytes := M'.2.1) (maxL := M'.2.2.1) (ret := M'.2.2.2.1) (C := M'.1.cls) hfix hMet ⟨⟨rfl, rfl, Nat.le_trans c1 hnf, Nat.le_trans c2 hnl, am_hws hts c3, List.mem_cons_self, hts _ w3.1 w3.2, hts _ w4.1 w4.2, ⟨c6, c7⟩, am_desc c8, hts _ w9.1 w9.2⟩, hts _ w10.1 w10.2, hts _ w11.1 w11.2⟩ ⟨am_P_blind, hrecv, hPc⟩ rfl hn hsize hst0 hW hd ⟨hcells, hslots⟩) hS hout
          · have c9 := of_decide_eq_true c9
            exact am_cont (va_runVN (bytes := M'.2.1) (maxL := M'.2.2.1) (ret := M'.2.2.2.1) (C := M'.1.cls) hfix hMet ⟨⟨⟨rfl, rfl, Nat.le_trans c1 hnf, Nat.le_trans c2 hnl, am_hws hts c3, List.mem_cons_self⟩, hts _ w3.1 w3.2, hts _ w4.1 w4.2, ⟨c6, c7⟩, am_desc c8, va_Nw.use rfl (hV.2.1 _ (List.mem_of_getElem? c9))⟩, hts _ w10.1 w10.2, hts _ w11.1 w11.2⟩ ⟨am_P_blind, hrecv, hPc⟩ rfl hn hsize hst0 hW hd ⟨hcells, hslots⟩) hS hout
        · cases hcl
      · cases hcl
    · cases hcl
  all_goals (simp only [am_cl] at hcl; try cases hcl)
end AMS
set_option maxHeartbeats 4000000 in
theorem am_sound (l : Launch) (ms : List am_M) (ad : Nat → Nat) (vF : Value) (D : va_G) (B : Nat) (hF : vF.category = 1) (hB : ∀ a, a < am_top → ad a = B + a) (hlen : ms.length ≤ 99990) (hck : ∀ M ∈ ms, am_ckM ms M = true) : ∀ f, am_Snd l ms ad vF D B f := by
  intro f
  induction f with
  | zero =>
    intro j M _ pc lsA stA σ σ' r h
    cases h
  | succ f ih =>
    intro j M hM pc lsA stA σ σ' r h p e R s m args below meth c Q C H locs ar cells slots hl hR hS hcells hslots hret
    obtain ⟨M0, i, L, K, hM0, hat, hst⟩ := am_run_step h
    cases hM.symm.trans hM0
    have hce := hck M (List.mem_of_getElem? hM)
    unfold am_ckM at hce
    rw [Bool.and_eq_true] at hce
    have hce := List.all_eq_true.mp hce.2 _ (am_at_in hat)
    unfold am_ckE at hce
    simp only [Bool.and_eq_true] at hce
    obtain ⟨hd0, hc0⟩ := hce
    have hd : decode M.2.1 pc = .ok (i, L) := by
      cases hdd : decode M.2.1 pc with
      | error _ => rw [hdd] at hd0; cases hd0
      | ok q =>
        rw [hdd] at hd0
        rw [of_decide_eq_true hd0]
    have hC := C
    obtain ⟨hx, hb, hml, hown, hts, hV, hin2, hnf, hnl⟩ := C
    have hnsw : (∃ st', am_pure i stA = some st') ∨ (∃ q, am_loc i lsA stA = some q) ∨ (∃ q, am_rd i K stA σ = some q) ∨ (∃ q, am_wr am_dfl i K stA σ = some q) ∨ (∃ q, am_cl i K stA σ = some q) ∨ (∃ q, am_rt M.2.2.2.1 i stA = some q) → L = am_len i ∧ am_ckI ms M.1.cls (decide (M.1.name = "<init>")) M.2.2.2.2.2.1 M.2.2.2.2.2.2.1 pc i K = true := by
      intro hh
      rcases am_ck_cases hc0 with h1 | ⟨d, lo, hi, o, rfl⟩ | ⟨d, ps, rfl⟩
      · exact h1
      · rcases hh with ⟨q, hq⟩ | ⟨q, hq⟩ | ⟨q, hq⟩ | ⟨q, hq⟩ | ⟨q, hq⟩ | ⟨q, hq⟩ <;> cases hq
      · rcases hh with ⟨q, hq⟩ | ⟨q, hq⟩ | ⟨q, hq⟩ | ⟨q, hq⟩ | ⟨q, hq⟩ | ⟨q, hq⟩ <;> cases hq
    rcases hst with ⟨pc', ls', st', σ1, hs, hrun⟩ | ⟨j', as, st', M', r1, σ1, hs, hM', hln, hrun1, hrun2⟩ | ⟨hs, rfl⟩
    · have hmono := am_run_mono _ _ _ _ _ _ _ _ hrun
      rcases am_stp_inl hs with ⟨h1, rfl, rfl, rfl⟩ | ⟨h1, rfl, rfl⟩ | ⟨h1, rfl, rfl⟩ | ⟨h1, rfl, rfl, rfl⟩ | ⟨h1, rfl, rfl⟩
      · obtain ⟨rfl, hck2⟩ := hnsw (Or.inl ⟨_, h1⟩)
        exact am_pure_ok hx hb hF h1 hd (ih j M hM _ _ _ _ _ _ hrun p e R s m args below meth c Q hC H locs ar cells slots hl hR hS hcells hslots hret)
      · obtain ⟨rfl, hck2⟩ := hnsw (Or.inr (Or.inl ⟨_, h1⟩))
        exact am_loc_ok hx hb hF h1 hl hd (fun ar' hl' => ih j M hM _ _ _ _ _ _ hrun p e R s m args below meth c Q hC H locs ar' cells slots hl' hR hS hcells hslots hret)
      · exact am_br_ok (ms := ms) (own := M.1.cls) (init := decide (M.1.name = "<init>")) (nf := M.2.2.2.2.2.1) (nl := M.2.2.2.2.2.2.1) hx hb h1 hd (by cases i <;> exact hc0) (ih j M hM _ _ _ _ _ _ hrun p e R s m args below meth c Q hC H locs ar cells slots hl hR hS hcells hslots hret)
      · obtain ⟨rfl, hck2⟩ := hnsw (Or.inr (Or.inr (Or.inl ⟨_, h1⟩)))
        exact am_rd_ok hx hb hF hown hts hV hR (hml.trans hl.2.1.symm) hnf hnl (Nat.le_trans (Nat.le_add_right _ _) hcells) (Nat.le_trans (Nat.le_add_right _ _) hslots) h1 hd hck2 (ih j M hM _ _ _ _ _ _ hrun p e R s m args below meth c Q hC H locs ar cells slots hl hR hS hcells hslots hret)
      · obtain ⟨rfl, hck2⟩ := hnsw (Or.inr (Or.inr (Or.inr (Or.inl ⟨_, h1⟩))))
        have hm2 := am_wr_mono h1
        have hm2 : σ.1 ≤ σ1.1 ∧ σ.2.1 ≤ σ1.2.1 := hm2
        have e1 : cells + (σ1.1 - σ.1) + (σ'.1 - σ1.1) = cells + (σ'.1 - σ.1) := by omega
        have e2 : slots + (σ1.2.1 - σ.2.1) + (σ'.2.1 - σ1.2.1) = slots + (σ'.2.1 - σ.2.1) := by omega
        refine am_wr_ok hx hb hB hown hts hV hR hS hin2 h1 hd hck2 (by show cells + (σ1.1 - σ.1) ≤ R.cells; omega) (by show slots + (σ1.2.1 - σ.2.1) ≤ R.slots; omega) (fun H1 locs1 hR1 hS1 => ih j M hM _ _ _ _ _ _ hrun p e R s m args below meth c Q hC H1 locs1 ar _ _ hl hR1 hS1 (by rw [e1]; exact hcells) (by rw [e2]; exact hslots) ?_)
        rw [e1, e2]
        exact hret
    · have hcl := am_stp_call hs
      obtain ⟨rfl, hck2⟩ := hnsw (Or.inr (Or.inr (Or.inr (Or.inr (Or.inl ⟨_, hcl⟩)))))
      have hm1 := am_run_mono _ _ _ _ _ _ _ _ hrun1
      have hm2 := am_run_mono _ _ _ _ _ _ _ _ hrun2
      have e1 : cells + (σ1.1 - σ.1) + (σ'.1 - σ1.1) = cells + (σ'.1 - σ.1) := by omega
      have e2 : slots + (σ1.2.1 - σ.2.1) + (σ'.2.1 - σ1.2.1) = slots + (σ'.2.1 - σ.2.1) := by omega
      have hj9 : j' ≤ 99990 := by
        have := (List.getElem?_eq_some_iff.mp hM').1
        omega
      have hKj : K.1 = 99999 → j' = 99999 := by
        intro hk
        have hcl2 := hcl
        cases i <;> simp only [am_cl] at hcl2 <;> first
          | (cases hcl2; done)
          | (repeat' (split at hcl2)) <;> first | (cases hcl2; done) | (cases hcl2; exact hk)
      refine am_call_ok hF hck ih hC hcl hd hck2 (Or.inr fun _ _ hk => by have := hKj hk; omega) hM' hln hrun1 hl.2.1 hR hS (by omega) (by omega) hj9 (fun H1 locs1 hR1 hS1 => ih j M hM _ _ _ _ _ _ hrun2 p e R s m args below meth c Q hC H1 locs1 ar _ _ hl hR1 hS1 (by rw [e1]; exact hcells) (by rw [e2]; exact hslots) ?_)
      rw [e1, e2]
      exact hret
    · have hrt := am_stp_ret hs
      obtain ⟨rfl, hck2⟩ := hnsw (Or.inr (Or.inr (Or.inr (Or.inr (Or.inr ⟨_, hrt⟩)))))
      have hw := hret pc i stA H locs ar hd hrt hR hS
      rw [Nat.sub_self, Nat.sub_self] at hw
      exact hw
