/-! THE PLAIN MACHINE IS SOUND, 1: values, stacks, locals, jumps -/
def am_cv (ad : Nat → Nat) (vF : Value) : Value → Value
  | .ref a => .ref (ad a)
  | .retAddr _ => vF
  | .int x => .int x
  | .long x => .long x
  | .float x => .float x
  | .double x => .double x
  | .null => .null
theorem am_cv_cat {ad : Nat → Nat} {vF : Value} (hF : vF.category = 1) (v : Value) : (am_cv ad vF v).category = v.category := by
  cases v <;> first | rfl | exact hF
theorem am_cv_sum {ad : Nat → Nat} {vF : Value} (hF : vF.category = 1) (r : List Value) : ((r.map (am_cv ad vF)).map fun v => v.category).sum = (r.map fun v => v.category).sum := by
  induction r with
  | nil => rfl
  | cons v r ih => simp only [List.map_cons, List.sum_cons, ih, am_cv_cat hF]
section AMP
variable {p : Program} {l : Launch} {e : Env} {R : Room} {s : State} {m : MethodId} {args : Array Value} {below : List Frame} {meth : Method} {c : Code} {H : Heap} {locs : List Loc} {cells slots : Nat} {Q : State → Prop}
variable {cc : ByteArray} {pc : Nat} {ls : Array Slot} {ad : Nat → Nat} {vF : Value}
set_option maxHeartbeats 4000000 in
theorem am_pure_ok (hx : p.tables.exec = Jvm.exec) (hb : c.code = cc) (hF : vF.category = 1) {i : Instr} {st st' : List Value} (h : am_pure i st = some st') (hd : decode cc pc = .ok (i, am_len i))
    (k : W p l e R s m args below meth c H locs cells slots Q (F0 m (pc + am_len i) ls (st'.map (am_cv ad vF)))) : W p l e R s m args below meth c H locs cells slots Q (F0 m pc ls (st.map (am_cv ad vF))) := by
  cases i
  case iconst n => cases h; exact lv_iconst hx hb hd rfl k
  case bipush n => cases h; exact lv_bipush hx hb hd rfl k
  case sipush n => cases h; exact lv_sipush hx hb hd rfl k
  case lconst n => cases h; exact lv_lconst hx hb hd rfl k
  case aconst_null => cases h; exact lv_null hx hb hd k
  case iadd =>
    simp only [am_pure] at h
    split at h
    · cases h; exact lv_iadd hx hb hd k
    · cases h
  case isub =>
    simp only [am_pure] at h
    split at h
    · cases h; exact lv_isub hx hb hd k
    · cases h
  case imul =>
    simp only [am_pure] at h
    split at h
    · cases h; exact lv_imul hx hb hd k
    · cases h
  case iand =>
    simp only [am_pure] at h
    split at h
    · cases h; exact lv_iand hx hb hd k
    · cases h
  case ior =>
    simp only [am_pure] at h
    split at h
    · cases h; exact lv_ior hx hb hd k
    · cases h
  case ixor =>
    simp only [am_pure] at h
    split at h
    · cases h; exact lv_ixor hx hb hd k
    · cases h
  case ishl =>
    simp only [am_pure] at h
    split at h
    · cases h; exact lv_ishl hx hb hd k
    · cases h
  case ishr =>
    simp only [am_pure] at h
    split at h
    · cases h; exact lv_ishr hx hb hd k
    · cases h
  case ineg =>
    simp only [am_pure] at h
    split at h
    · cases h; exact lv_ineg hx hb hd k
    · cases h
  case ladd =>
    simp only [am_pure] at h
    split at h
    · cases h; exact lv_ladd hx hb hd k
    · cases h
  case lsub =>
    simp only [am_pure] at h
    split at h
    · cases h; exact lv_lsub hx hb hd k
    · cases h
  case lmul =>
    simp only [am_pure] at h
    split at h
    · cases h; exact lv_lmul hx hb hd k
    · cases h
  case land =>
    simp only [am_pure] at h
    split at h
    · cases h; exact lv_land hx hb hd k
    · cases h
  case lor =>
    simp only [am_pure] at h
    split at h
    · cases h; exact lv_lor hx hb hd k
    · cases h
  case lxor =>
    simp only [am_pure] at h
    split at h
    · cases h; exact lv_lxor hx hb hd k
    · cases h
  case iushr =>
    simp only [am_pure] at h
    split at h
    · cases h; exact lv_iushr hx hb hd rfl k
    · cases h
  case lshl =>
    simp only [am_pure] at h
    split at h
    · cases h; exact lv_lshl hx hb hd rfl k
    · cases h
  case lshr =>
    simp only [am_pure] at h
    split at h
    · cases h; exact lv_lshr hx hb hd rfl k
    · cases h
  case lushr =>
    simp only [am_pure] at h
    split at h
    · cases h; exact lv_lushr hx hb hd rfl k
    · cases h
  case i2l =>
    simp only [am_pure] at h
    split at h
    · cases h; exact lv_i2l hx hb hd rfl k
    · cases h
  case l2i =>
    simp only [am_pure] at h
    split at h
    · cases h; exact lv_l2i hx hb hd rfl k
    · cases h
  case i2c =>
    simp only [am_pure] at h
    split at h
    · cases h; exact lv_i2c hx hb hd rfl k
    · cases h
  case idiv =>
    simp only [am_pure] at h
    split at h
    · split at h
      · cases h
      · rename_i hy; cases h; exact lv_idiv hx hb hd hy k
    · cases h
  case irem =>
    simp only [am_pure] at h
    split at h
    · split at h
      · cases h
      · rename_i hy; cases h; exact lv_irem hx hb hd hy k
    · cases h
  case ldiv =>
    simp only [am_pure] at h
    split at h
    · split at h
      · cases h
      · rename_i hy; cases h; exact lv_ldiv hx hb hd hy k
    · cases h
  case lcmp =>
    simp only [am_pure] at h
    split at h
    · cases h; exact W.lcmp hx hb hd k
    · cases h
  case dup =>
    simp only [am_pure] at h
    split at h
    · split at h
      · rename_i hy; cases h; exact lv_dup hx hb hd ((am_cv_cat hF _).trans hy) k
      · cases h
    · cases h
  case pop =>
    simp only [am_pure] at h
    split at h
    · split at h
      · rename_i hy; cases h; exact lv_pop hx hb hd ((am_cv_cat hF _).trans hy) k
      · cases h
    · cases h
  case dup2 =>
    simp only [am_pure] at h
    split at h
    · split at h
      · rename_i hy; cases h; exact lv_dup2_11 hx hb hd ((am_cv_cat hF _).trans hy.1) ((am_cv_cat hF _).trans hy.2) k
      · cases h
    · cases h
  all_goals (simp only [am_pure] at h; try cases h)
end AMP
/-! locals -/
def am_lR (ad : Nat → Nat) (vF : Value) (n : Nat) (ls : am_L) (ar : Array Slot) : Prop := ls.length = n ∧ ar.size = n ∧ lv_wf ar ∧ ∀ (i : Nat) (v : Value), ls[i]? = some (some v) → ar[i]? = some (.val (am_cv ad vF v))
def am_al (ad : Nat → Nat) (vF : Value) (ls : am_L) : List (Nat × Value) := (List.range ls.length).filterMap (fun i => match ls[i]? with | some (some v) => some (i, am_cv ad vF v) | _ => none)
theorem am_al_in {ad : Nat → Nat} {vF : Value} {ls : am_L} {i : Nat} {v : Value} (h : ls[i]? = some (some v)) : (i, am_cv ad vF v) ∈ am_al ad vF ls := by
  have hi : i < ls.length := (List.getElem?_eq_some_iff.mp h).1
  exact List.mem_filterMap.mpr ⟨i, List.mem_range.mpr hi, by simp only [h]⟩
theorem am_al_out {ad : Nat → Nat} {vF : Value} {ls : am_L} {q : Nat × Value} (h : q ∈ am_al ad vF ls) : ∃ v, ls[q.1]? = some (some v) ∧ q.2 = am_cv ad vF v := by
  obtain ⟨i, -, hi⟩ := List.mem_filterMap.mp h
  split at hi
  · rename_i v hv
    cases hi
    exact ⟨v, hv, rfl⟩
  · cases hi
theorem am_lR.has {ad : Nat → Nat} {vF : Value} {n : Nat} {ls : am_L} {ar : Array Slot} (h : am_lR ad vF n ls ar) : lv_has ar n (am_al ad vF ls) := by
  refine ⟨h.2.1, h.2.2.1, fun q hq => ?_⟩
  obtain ⟨v, h1, h2⟩ := am_al_out hq
  rw [h2]
  exact h.2.2.2 _ _ h1
theorem am_clr_len (ls : am_L) (n : Nat) : (am_clr ls n).length = ls.length := by
  cases n with
  | zero => rfl
  | succ k =>
    simp only [am_clr]
    split
    · split
      · simp
      · rfl
    · rfl
theorem am_clr_get {ls : am_L} {i k : Nat} {v : Value} (h : (am_clr ls i)[k]? = some (some v)) : ls[k]? = some (some v) ∧ ¬ (k + 1 = i ∧ v.category = 2) := by
  cases i with
  | zero => exact ⟨h, fun q => by omega⟩
  | succ j =>
    simp only [am_clr] at h
    split at h
    · rename_i w hw
      split at h
      · rename_i hc
        rw [List.getElem?_set] at h
        split at h
        · split at h <;> cases h
        · rename_i hne
          exact ⟨h, fun q => hne (by omega)⟩
      · rename_i hc
        refine ⟨h, fun q => ?_⟩
        have hk : k = j := by omega
        subst hk
        rw [hw] at h
        cases h
        exact hc q.2
    · rename_i hw
      refine ⟨h, fun q => ?_⟩
      have hk : k = j := by omega
      subst hk
      exact hw v h
theorem am_lR.st1 {ad : Nat → Nat} {vF : Value} (hF : vF.category = 1) {n : Nat} {ls : am_L} {ar ar' : Array Slot} {i : Nat} {x : Value} (h : am_lR ad vF n ls ar) (h' : lv_has ar' n ((i, am_cv ad vF x) :: (am_al ad vF ls).filter (fun q => !(q.1 == i) && !(q.1 + 1 == i && q.2.category == 2)))) : am_lR ad vF n (am_st1 ls i x) ar' := by
  refine ⟨by simp [am_st1, am_clr_len, h.1], h'.1, h'.2.1, fun k v hk => ?_⟩
  unfold am_st1 at hk
  rw [List.getElem?_set] at hk
  split at hk
  · rename_i hki
    subst hki
    split at hk
    · cases hk
      exact h'.2.2 (_, _) List.mem_cons_self
    · cases hk
  · rename_i hki
    obtain ⟨h1, h2⟩ := am_clr_get hk
    refine h'.2.2 (k, am_cv ad vF v) (List.mem_cons_of_mem _ (List.mem_filter.mpr ⟨am_al_in h1, ?_⟩))
    simp only [Bool.and_eq_true, Bool.not_eq_true', beq_eq_false_iff_ne, Bool.and_eq_false_iff, am_cv_cat hF]
    refine ⟨fun q => hki q.symm, ?_⟩
    by_cases hh : k + 1 = i
    · exact Or.inr (fun q => h2 ⟨hh, q⟩)
    · exact Or.inl hh
theorem am_lR.st2 {ad : Nat → Nat} {vF : Value} (hF : vF.category = 1) {n : Nat} {ls : am_L} {ar ar' : Array Slot} {i : Nat} {x : Value} (h : am_lR ad vF n ls ar) (h' : lv_has ar' n ((i, am_cv ad vF x) :: (am_al ad vF ls).filter (fun q => !(q.1 == i) && (!(q.1 == i + 1) && !(q.1 + 1 == i && q.2.category == 2))))) : am_lR ad vF n (am_st2 ls i x) ar' := by
  refine ⟨by simp [am_st2, am_clr_len, h.1], h'.1, h'.2.1, fun k v hk => ?_⟩
  unfold am_st2 at hk
  rw [List.getElem?_set] at hk
  split at hk
  · split at hk <;> cases hk
  · rename_i hki1
    rw [List.getElem?_set] at hk
    split at hk
    · rename_i hki
      subst hki
      split at hk
      · cases hk
        exact h'.2.2 (_, _) List.mem_cons_self
      · cases hk
    · rename_i hki
      obtain ⟨h1, h2⟩ := am_clr_get hk
      refine h'.2.2 (k, am_cv ad vF v) (List.mem_cons_of_mem _ (List.mem_filter.mpr ⟨am_al_in h1, ?_⟩))
      simp only [Bool.and_eq_true, Bool.not_eq_true', beq_eq_false_iff_ne, Bool.and_eq_false_iff, am_cv_cat hF]
      refine ⟨fun q => hki q.symm, fun q => hki1 q.symm, ?_⟩
      by_cases hh : k + 1 = i
      · exact Or.inr (fun q => h2 ⟨hh, q⟩)
      · exact Or.inl hh
section AML
variable {p : Program} {l : Launch} {e : Env} {R : Room} {s : State} {m : MethodId} {args : Array Value} {below : List Frame} {meth : Method} {c : Code} {H : Heap} {locs : List Loc} {cells slots : Nat} {Q : State → Prop}
variable {cc : ByteArray} {pc : Nat} {ad : Nat → Nat} {vF : Value}
set_option maxHeartbeats 4000000 in
theorem am_loc_ok (hx : p.tables.exec = Jvm.exec) (hb : c.code = cc) (hF : vF.category = 1) {i : Instr} {n : Nat} {ls : am_L} {ar : Array Slot} {st : List Value} {q : am_L × List Value} (h : am_loc i ls st = some q) (hl : am_lR ad vF n ls ar) (hd : decode cc pc = .ok (i, am_len i))
    (k : ∀ ar' : Array Slot, am_lR ad vF n q.1 ar' → W p l e R s m args below meth c H locs cells slots Q (F0 m (pc + am_len i) ar' (q.2.map (am_cv ad vF)))) : W p l e R s m args below meth c H locs cells slots Q (F0 m pc ar (st.map (am_cv ad vF))) := by
  cases i
  case iload j =>
    simp only [am_loc, am_ldi] at h
    split at h
    · rename_i x hj; cases h; exact lv_iload hx hb hd (hl.2.2.2 _ _ hj) (k ar hl)
    · cases h
  case iload_n j =>
    simp only [am_loc, am_ldi] at h
    split at h
    · rename_i x hj; cases h; exact lv_iload_n hx hb hd rfl (hl.2.2.2 _ _ hj) (k ar hl)
    · cases h
  case lload j =>
    simp only [am_loc, am_ldl] at h
    split at h
    · rename_i x hj; cases h; exact lv_lload hx hb hd (hl.2.2.2 _ _ hj) (k ar hl)
    · cases h
  case lload_n j =>
    simp only [am_loc, am_ldl] at h
    split at h
    · rename_i x hj; cases h; exact lv_lload_n hx hb hd rfl (hl.2.2.2 _ _ hj) (k ar hl)
    · cases h
  case aload j =>
    simp only [am_loc, am_lda] at h
    split at h
    · rename_i x hj; cases h; exact lv_aload hx hb hd (hl.2.2.2 _ _ hj) (k ar hl)
    · rename_i hj; cases h; exact lv_aloadN hx hb hd (hl.2.2.2 _ _ hj) (k ar hl)
    · cases h
  case aload_n j =>
    simp only [am_loc, am_lda] at h
    split at h
    · rename_i x hj; cases h; exact lv_aload_n hx hb hd rfl (hl.2.2.2 _ _ hj) (k ar hl)
    · rename_i hj; cases h; exact lv_aload_nN hx hb hd rfl (hl.2.2.2 _ _ hj) (k ar hl)
    · cases h
  case istore j =>
    simp only [am_loc, am_sti] at h
    split at h
    · split at h
      · rename_i hj; cases h; exact lv_istore hx hb hd hl.has (by have := hl.1; omega) rfl (fun ar' h' => k ar' (hl.st1 hF h'))
      · cases h
    · cases h
  case istore_n j =>
    simp only [am_loc, am_sti] at h
    split at h
    · split at h
      · rename_i hj; cases h; exact lv_istore_n hx hb hd rfl hl.has (by have := hl.1; omega) rfl (fun ar' h' => k ar' (hl.st1 hF h'))
      · cases h
    · cases h
  case lstore j =>
    simp only [am_loc, am_stl] at h
    split at h
    · split at h
      · rename_i hj; cases h; exact lv_lstore hx hb hd hl.has (by have := hl.1; omega) rfl (fun ar' h' => k ar' (hl.st2 hF h'))
      · cases h
    · cases h
  case lstore_n j =>
    simp only [am_loc, am_stl] at h
    split at h
    · split at h
      · rename_i hj; cases h; exact lv_lstore_n hx hb hd rfl hl.has (by have := hl.1; omega) rfl (fun ar' h' => k ar' (hl.st2 hF h'))
      · cases h
    · cases h
  case astore j =>
    simp only [am_loc, am_sta] at h
    split at h
    · split at h
      · rename_i hj; cases h; exact lv_astore hx hb hd hl.has (by have := hl.1; omega) rfl (fun ar' h' => k ar' (hl.st1 hF h'))
      · cases h
    · split at h
      · rename_i hj; cases h; exact lv_astoreN hx hb hd hl.has (by have := hl.1; omega) rfl (fun ar' h' => k ar' (hl.st1 hF h'))
      · cases h
    · cases h
  case astore_n j =>
    simp only [am_loc, am_sta] at h
    split at h
    · split at h
      · rename_i hj; cases h; exact lv_astore_n hx hb hd rfl hl.has (by have := hl.1; omega) rfl (fun ar' h' => k ar' (hl.st1 hF h'))
      · cases h
    · split at h
      · rename_i hj; cases h; exact lv_astore_nN hx hb hd rfl hl.has (by have := hl.1; omega) rfl (fun ar' h' => k ar' (hl.st1 hF h'))
      · cases h
    · cases h
  case iinc j d =>
    simp only [am_loc] at h
    split at h
    · rename_i x hj
      split at h
      · rename_i hlt
        cases h
        obtain ⟨kk, hk⟩ := List.getElem?_of_mem (am_al_in (ad := ad) (vF := vF) hj)
        exact lv_iinc hx hb hd hl.has (k := kk) hk rfl (by have := hl.1; omega) rfl (fun ar' h' => k ar' (hl.st1 hF h'))
      · cases h
    · cases h
  all_goals (simp only [am_loc] at h; try cases h)
theorem am_to_ok {pc : Nat} {off : Int} {r : List Value} {q : Nat × List Value} (h : am_to pc off r = some q) : (pc : Int) + off = (q.1 : Int) ∧ q.2 = r := by
  unfold am_to at h
  split at h
  · rename_i h0
    cases h
    exact ⟨(Int.toNat_of_nonneg h0).symm, rfl⟩
  · cases h
variable {ls : Array Slot}
set_option maxHeartbeats 4000000 in
theorem am_br_ok (hx : p.tables.exec = Jvm.exec) (hb : c.code = cc) {i : Instr} {K : am_K} {st : List Value} {q : Nat × List Value} (h : am_br i K pc st = some q) {L : Nat} (hd : decode cc pc = .ok (i, L)) {ms : List am_M} {own : String} {init : Bool} {nf nl : Nat}
    (hc : (match i with | .tableswitch _ _ _ _ => true | .lookupswitch _ ps => am_sorted ps | i => L == am_len i && am_ckI ms own init nf nl pc i K) = true)
    (k : W p l e R s m args below meth c H locs cells slots Q (F0 m q.1 ls (q.2.map (am_cv ad vF)))) : W p l e R s m args below meth c H locs cells slots Q (F0 m pc ls (st.map (am_cv ad vF))) := by
  cases i
  case goto o =>
    simp only [am_br] at h
    cases h
    simp only [Bool.and_eq_true, beq_iff_eq, am_ckI, decide_eq_true_eq, am_len] at hc
    obtain ⟨rfl, h2⟩ := hc
    exact lv_goto hx hb hd h2 k
  case ifnull o =>
    simp only [Bool.and_eq_true, beq_iff_eq, am_ckI, decide_eq_true_eq, am_len] at hc
    obtain ⟨rfl, h2⟩ := hc
    simp only [am_br] at h
    split at h
    · cases h; exact lv_ifnullN hx hb hd h2 k
    · cases h; exact lv_ifnull hx hb hd k
    · cases h
  case ifnonnull o =>
    simp only [Bool.and_eq_true, beq_iff_eq, am_ckI, decide_eq_true_eq, am_len] at hc
    obtain ⟨rfl, h2⟩ := hc
    simp only [am_br] at h
    split at h
    · cases h; exact lv_ifnonnull hx hb hd h2 k
    · cases h; exact lv_ifnonnullN hx hb hd k
    · cases h
  case ifCond cnd o =>
    simp only [Bool.and_eq_true, beq_iff_eq, am_ckI, decide_eq_true_eq, am_len] at hc
    obtain ⟨rfl, h2⟩ := hc
    simp only [am_br] at h
    split at h
    · rename_i x r
      cases h
      cases cnd <;> simp only [am_cb, Bool.not_eq_true', decide_eq_true_eq, decide_eq_false_iff_not] at k
      · exact lv_if_eq hx hb hd h2 (fun z => by rw [if_pos z] at k; exact k) (fun z => by rw [if_neg z] at k; exact k)
      · exact lv_if_ne hx hb hd h2 (fun z => by rw [if_pos z] at k; exact k) (fun z => by rw [if_neg (fun y => y z)] at k; exact k)
      · exact lv_if_lt hx hb hd h2 (fun z => by rw [if_pos z] at k; exact k) (fun z => by rw [if_neg z] at k; exact k)
      · exact lv_if_ge hx hb hd h2 (fun z => by rw [if_pos z] at k; exact k) (fun z => by rw [if_neg z] at k; exact k)
      · exact lv_if_gt hx hb hd h2 (fun z => by rw [if_pos z] at k; exact k) (fun z => by rw [if_neg z] at k; exact k)
      · exact lv_if_le hx hb hd h2 (fun z => by rw [if_pos z] at k; exact k) (fun z => by rw [if_neg z] at k; exact k)
    · cases h
  case if_icmp cnd o =>
    simp only [Bool.and_eq_true, beq_iff_eq, am_ckI, decide_eq_true_eq, am_len] at hc
    obtain ⟨rfl, h2⟩ := hc
    simp only [am_br] at h
    split at h
    · rename_i y x r
      cases h
      cases cnd <;> simp only [am_cb, Bool.not_eq_true', decide_eq_true_eq, decide_eq_false_iff_not] at k
      · exact lv_icmp_eq hx hb hd h2 (fun z => by rw [if_pos z] at k; exact k) (fun z => by rw [if_neg z] at k; exact k)
      · exact lv_icmp_ne hx hb hd h2 (fun z => by rw [if_pos z] at k; exact k) (fun z => by rw [if_neg (fun y => y z)] at k; exact k)
      · exact lv_icmp_lt hx hb hd h2 (fun z => by rw [if_pos z] at k; exact k) (fun z => by rw [if_neg z] at k; exact k)
      · exact lv_icmp_ge hx hb hd h2 (fun z => by rw [if_pos z] at k; exact k) (fun z => by rw [if_neg z] at k; exact k)
      · exact lv_icmp_gt hx hb hd h2 (fun z => by rw [if_pos z] at k; exact k) (fun z => by rw [if_neg z] at k; exact k)
      · exact lv_icmp_le hx hb hd h2 (fun z => by rw [if_pos z] at k; exact k) (fun z => by rw [if_neg z] at k; exact k)
    · cases h
  case tableswitch d lo hi offs =>
    cases st with
    | nil => simp [am_br] at h
    | cons v r =>
      cases v
      case int x =>
        have h : (if x.toInt < lo ∨ hi < x.toInt then am_to pc d r else match offs[(x.toInt - lo).toNat]? with | some o => am_to pc o r | none => none) = some q := h
        by_cases ho : x.toInt < lo ∨ hi < x.toInt
        · rw [if_pos ho] at h
          obtain ⟨h1, h2⟩ := am_to_ok h
          rw [h2] at k
          exact lv_tableOut hx hb hd ho h1 k
        · rw [if_neg ho] at h
          cases hoff : offs[(x.toInt - lo).toNat]? with
          | none => rw [hoff] at h; cases h
          | some off =>
            rw [hoff] at h
            obtain ⟨h1, h2⟩ := am_to_ok h
            rw [h2] at k
            exact lv_tableIn hx hb hd (fun z => ho (Or.inl z)) (fun z => ho (Or.inr z)) hoff h1 k
      all_goals simp [am_br] at h
  case lookupswitch d ps =>
    simp only [am_br] at h
    split at h
    · rename_i x r
      obtain ⟨h1, h2⟩ := am_to_ok h
      rw [h2] at k
      exact lv_lookup hx hb hd hc rfl h1 k
    · cases h
  all_goals (simp only [am_br] at h; try cases h)
end AML
