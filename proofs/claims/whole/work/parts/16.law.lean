/-! THE CLAIM OUT OF ONE WALK OF THE LAW'S BODY. Your part is whole_start (and what it stands on); all else here is the same for every law, but numbers. -/
def R_law : String := "PictureAgencyLaw"
def lw_P (b : Addr) (xs : List Int32) (args : Array Value) (s : State) : Prop := args = #[.ref b] ∧ s.IntsAt b xs ∧ xs.length ≤ 3584 ∧ (Jvm.Cond.and given_1 narrow_1).before args s = true
def lw_Q (_ : Array Value) (s : State) (o : Outcome) (t : State) : Prop := o = .returned (some (.int 1)) ∧ Framed s o t [] 600000 7302250
def lw_Z (below : List Frame) (a : Array Value) (s : State) : State → Prop := fun t => ∃ o, t.status = .running ∧ Ended t below o ∧ lw_Q a s o t
/-- the law's own end, with 1 on the stack, nothing written that was there before, its room as the claim has it -/
theorem lw_ret {p : Program} {l : Launch} {e : Env} {s : State} {m : MethodId} {below : List Frame} {meth : Method} {c : Code} {b : Nat} (hx : p.tables.exec = Jvm.exec) (hb : c.code = code) (hr : meth.sig.returnType = ret) (hlocks : meth.locks = false) {pc : Nat} {H : Heap} {ls : Array Slot} (hdg : decode code pc = .ok (.ireturn, 1)) : W p l e room_1 s m #[Value.ref b] below meth c H [] 600000 7302250 (lw_Z below #[Value.ref b] s) (F0 m pc ls [.int 1]) := by
  intro T hT X
  obtain ⟨fs, hret, hrun, hended, hW, hframe⟩ := X.leave (v := some (.int 1)) (hlocks := hlocks) (fun h => by rw [hr] at h; cases h)
  have hmeth' : T.vm.method? m = some meth := X.method'
  refine ⟨T.setFrames fs, ?_, .returned (some (.int 1)), hrun, hended, rfl, ⟨_, rfl⟩, hW, hframe⟩
  jvm_step X.here [X.here.top, hx, hb, hdg, hmeth', hr, ret, narrow_b1]
  (try refine ⟨rfl, ?_⟩); (try refine ⟨rfl, ?_⟩)
  first | (intro acts; rw [hret _ acts rfl rfl rfl]) | rw [hret _ _ rfl rfl rfl]
  exact Steps.refl _
/-- what holds at the law's entry: the machine, the code, the tables' words (any of lw_tbl by 'hts w (by decide +kernel)'), the script of L ints xs at the cell b, what the Statement gives of the start (any of its parts by flat_of_before) -/
def lw_At (p : Program) (s : State) (m : MethodId) (meth : Method) (c : Code) (b L : Nat) (xs : Nat → Int32) : Prop :=
  p.tables.exec = Jvm.exec ∧ c.code = code ∧ meth.sig.returnType = ret ∧ c.maxLocals = 4 ∧ s.vm.findClass R_law = some m.cls ∧ (∀ w ∈ lw_tbl, w.before #[Value.ref b] s = true) ∧ va_X b L xs s s.heap ∧ b < s.heap.size ∧ meth.locks = false ∧ (Jvm.Cond.and given_1 narrow_1).before #[Value.ref b] s = true
/-! FROM THE PLAIN RUN OF THE LAW TO THE MACHINE -/
theorem am_nest_in : ∀ w ∈ am_nest, w ∈ lw_tbl := by
  have h : am_nest = [82, 114, 128, 139, 141, 162, 179, 185, 191, 198, 200, 202, 204, 237, 252, 261, 263, 265, 373, 493, 539, 547, 549, 551, 553, 555, 557, 666, 679, 686, 693, 702, 743, 764, 789, 790, 792, 794, 795, 797, 798, 801, 802, 804, 805, 806, 807, 809, 810, 811, 812, 814, 815, 817, 818, 820].filterMap (fun i => lw_tbl[i]?) := by decide +kernel
  intro w hw
  rw [h] at hw
  obtain ⟨i, -, hi⟩ := List.mem_filterMap.mp hw
  exact List.mem_of_getElem? hi
theorem am_cls_inst : ∀ (k : Nat) (r : vw_C), am_cls[k]? = some r → Cond.instantiable r.1 r.2.2 ∈ lw_tbl := by
  intro k r hk
  match k, hk with
  | 0, hk => cases hk; exact List.mem_of_getElem? (i := 127) (by decide +kernel)
  | 1, hk => cases hk; exact List.mem_of_getElem? (i := 161) (by decide +kernel)
  | 2, hk => cases hk; exact List.mem_of_getElem? (i := 251) (by decide +kernel)
  | 3, hk => cases hk; exact List.mem_of_getElem? (i := 87) (by decide +kernel)
  | 4, hk => cases hk; exact List.mem_of_getElem? (i := 178) (by decide +kernel)
  | 5, hk => cases hk; exact List.mem_of_getElem? (i := 783) (by decide +kernel)
  | 6, hk => cases hk; exact List.mem_of_getElem? (i := 236) (by decide +kernel)
  | 7, hk => cases hk; exact List.mem_of_getElem? (i := 184) (by decide +kernel)
  | 8, hk => cases hk; exact List.mem_of_getElem? (i := 538) (by decide +kernel)
  | 9, hk => cases hk; exact List.mem_of_getElem? (i := 81) (by decide +kernel)
  | 10, hk => cases hk; exact List.mem_of_getElem? (i := 73) (by decide +kernel)
  | 11, hk => cases hk; exact List.mem_of_getElem? (i := 912) (by decide +kernel)
  | k + 12, hk => simp [am_cls] at hk
theorem am_aos_in : ∀ C ∈ am_aos, Cond.arrayOver (.object C) ∈ lw_tbl := by
  intro C hC
  simp only [am_aos, List.mem_cons, List.not_mem_nil, or_false] at hC
  rcases hC with rfl | rfl
  · exact List.mem_of_getElem? (i := 242) (by decide +kernel)
  · exact List.mem_of_getElem? (i := 257) (by decide +kernel)
theorem am_strs_in : ∀ (k : Nat) (q : String × Nat × String), am_strs[k]? = some q → Cond.stringRef q.1 q.2.1 q.2.2 ∈ lw_tbl := by
  intro k q hk
  match k, hk with
  | 0, hk => cases hk; exact List.mem_of_getElem? (i := 605) (by decide +kernel)
  | 1, hk => cases hk; exact List.mem_of_getElem? (i := 658) (by decide +kernel)
  | 2, hk => cases hk; exact List.mem_of_getElem? (i := 659) (by decide +kernel)
  | 3, hk => cases hk; exact List.mem_of_getElem? (i := 660) (by decide +kernel)
  | 4, hk => cases hk; exact List.mem_of_getElem? (i := 661) (by decide +kernel)
  | k + 5, hk => simp [am_strs] at hk
def am_sb : List (List Int32) := [[108, 97, 110, 100], [117, 115, 101], [100, 97, 121, 115], [109, 111, 115, 116], [110, 111, 116]]
def am_sn : List Nat := [4, 3, 4, 4, 3]
def am_tm (k : Nat) : Term := match k with
  | 0 => .string "PictureAgency$Reader" 130
  | 1 => .string "PictureAgency$Reader" 136
  | 2 => .string "PictureAgency$Reader" 138
  | 3 => .string "PictureAgency$Reader" 140
  | _ => .string "PictureAgency$Reader" 142
def am_x (L : Nat) (xs : Nat → Int32) (k : Nat) : Option am_C := match k with
  | 0 => some (am_ia 0 L xs)
  | 1 => some (am_ob am_NS [.ref (am_top + 11), .int 0])
  | 2 => some (am_ob am_NS [.ref (am_top + 12), .int 0])
  | 3 => some (am_ob am_NS [.ref (am_top + 13), .int 0])
  | 4 => some (am_ob am_NS [.ref (am_top + 14), .int 0])
  | 5 => some (am_ob am_NS [.ref (am_top + 15), .int 0])
  | 11 => some (am_ia 2 4 (fun j => (am_sb.getD 0 []).getD j 0))
  | 12 => some (am_ia 2 3 (fun j => (am_sb.getD 1 []).getD j 0))
  | 13 => some (am_ia 2 4 (fun j => (am_sb.getD 2 []).getD j 0))
  | 14 => some (am_ia 2 4 (fun j => (am_sb.getD 3 []).getD j 0))
  | 15 => some (am_ia 2 3 (fun j => (am_sb.getD 4 []).getD j 0))
  | _ => none
def am_σ0 (L : Nat) (xs : Nat → Int32) : am_H := (0, 0, fun a => if a < am_top then none else am_x L xs (a - am_top))
/-- the String constants at the start -/
theorem am_strs_at {b : Nat} {s : State} (hgv : (Jvm.Cond.and given_1 narrow_1).before #[Value.ref b] s = true) : ∃ adK adV : Nat → Nat, vk_S 5 am_sn am_sb adK adV (am_old s.heap.size) s s.heap ∧ ∀ i : Nat, i < 5 → (am_tm i).eval #[Value.ref b] s none [] s = some (.ref (adK i)) := by
  have hs := flat_of_before _ hgv
  refine vk_Sof (tm := am_tm) (len := am_sn) (byt := am_sb) ?_ ?_ ?_ ?_ ?_ ?_ ?_ ?_
  · intro i hi
    match i, hi with
    | 0, _ => exact (by decide)
    | 1, _ => exact (by decide)
    | 2, _ => exact (by decide)
    | 3, _ => exact (by decide)
    | 4, _ => exact (by decide)
    | k + 5, h => omega
  · intro i hi
    match i, hi with
    | 0, _ => exact hs _ (by decide +kernel)
    | 1, _ => exact hs _ (by decide +kernel)
    | 2, _ => exact hs _ (by decide +kernel)
    | 3, _ => exact hs _ (by decide +kernel)
    | 4, _ => exact hs _ (by decide +kernel)
    | k + 5, h => omega
  · intro i hi
    match i, hi with
    | 0, _ => exact hs _ (by decide +kernel)
    | 1, _ => exact hs _ (by decide +kernel)
    | 2, _ => exact hs _ (by decide +kernel)
    | 3, _ => exact hs _ (by decide +kernel)
    | 4, _ => exact hs _ (by decide +kernel)
    | k + 5, h => omega
  · intro i hi
    match i, hi with
    | 0, _ => exact hs _ (by decide +kernel)
    | 1, _ => exact hs _ (by decide +kernel)
    | 2, _ => exact hs _ (by decide +kernel)
    | 3, _ => exact hs _ (by decide +kernel)
    | 4, _ => exact hs _ (by decide +kernel)
    | k + 5, h => omega
  · intro i hi
    match i, hi with
    | 0, _ => exact hs _ (by decide +kernel)
    | 1, _ => exact hs _ (by decide +kernel)
    | 2, _ => exact hs _ (by decide +kernel)
    | 3, _ => exact hs _ (by decide +kernel)
    | 4, _ => exact hs _ (by decide +kernel)
    | k + 5, h => omega
  · intro i hi j hj
    match i, hi with
    | 0, _ =>
      have hj : j < 4 := hj
      match j, hj with
      | 0, _ => exact hs _ (by decide +kernel)
      | 1, _ => exact hs _ (by decide +kernel)
      | 2, _ => exact hs _ (by decide +kernel)
      | 3, _ => exact hs _ (by decide +kernel)
      | q + 4, h => omega
    | 1, _ =>
      have hj : j < 3 := hj
      match j, hj with
      | 0, _ => exact hs _ (by decide +kernel)
      | 1, _ => exact hs _ (by decide +kernel)
      | 2, _ => exact hs _ (by decide +kernel)
      | q + 3, h => omega
    | 2, _ =>
      have hj : j < 4 := hj
      match j, hj with
      | 0, _ => exact hs _ (by decide +kernel)
      | 1, _ => exact hs _ (by decide +kernel)
      | 2, _ => exact hs _ (by decide +kernel)
      | 3, _ => exact hs _ (by decide +kernel)
      | q + 4, h => omega
    | 3, _ =>
      have hj : j < 4 := hj
      match j, hj with
      | 0, _ => exact hs _ (by decide +kernel)
      | 1, _ => exact hs _ (by decide +kernel)
      | 2, _ => exact hs _ (by decide +kernel)
      | 3, _ => exact hs _ (by decide +kernel)
      | q + 4, h => omega
    | 4, _ =>
      have hj : j < 3 := hj
      match j, hj with
      | 0, _ => exact hs _ (by decide +kernel)
      | 1, _ => exact hs _ (by decide +kernel)
      | 2, _ => exact hs _ (by decide +kernel)
      | q + 3, h => omega
    | k + 5, h => omega
  · intro i j hi hj hij
    match i, hi, j, hj, hij with
    | 0, _, 0, _, h => exact absurd rfl h
    | 0, _, 1, _, _ => exact Or.inl (hs _ (by decide +kernel))
    | 0, _, 2, _, _ => exact Or.inl (hs _ (by decide +kernel))
    | 0, _, 3, _, _ => exact Or.inl (hs _ (by decide +kernel))
    | 0, _, 4, _, _ => exact Or.inl (hs _ (by decide +kernel))
    | 1, _, 0, _, _ => exact Or.inr (hs _ (by decide +kernel))
    | 1, _, 1, _, h => exact absurd rfl h
    | 1, _, 2, _, _ => exact Or.inl (hs _ (by decide +kernel))
    | 1, _, 3, _, _ => exact Or.inl (hs _ (by decide +kernel))
    | 1, _, 4, _, _ => exact Or.inl (hs _ (by decide +kernel))
    | 2, _, 0, _, _ => exact Or.inr (hs _ (by decide +kernel))
    | 2, _, 1, _, _ => exact Or.inr (hs _ (by decide +kernel))
    | 2, _, 2, _, h => exact absurd rfl h
    | 2, _, 3, _, _ => exact Or.inl (hs _ (by decide +kernel))
    | 2, _, 4, _, _ => exact Or.inl (hs _ (by decide +kernel))
    | 3, _, 0, _, _ => exact Or.inr (hs _ (by decide +kernel))
    | 3, _, 1, _, _ => exact Or.inr (hs _ (by decide +kernel))
    | 3, _, 2, _, _ => exact Or.inr (hs _ (by decide +kernel))
    | 3, _, 3, _, h => exact absurd rfl h
    | 3, _, 4, _, _ => exact Or.inl (hs _ (by decide +kernel))
    | 4, _, 0, _, _ => exact Or.inr (hs _ (by decide +kernel))
    | 4, _, 1, _, _ => exact Or.inr (hs _ (by decide +kernel))
    | 4, _, 2, _, _ => exact Or.inr (hs _ (by decide +kernel))
    | 4, _, 3, _, _ => exact Or.inr (hs _ (by decide +kernel))
    | 4, _, 4, _, h => exact absurd rfl h
    | k + 5, h, _, _, _ => omega
    | _, _, k + 5, h, _ => omega
  · intro a ha hz
    exact absurd ha (Nat.not_lt.mpr hz)
def am_ad (B b : Nat) (adK adV : Nat → Nat) (a : Nat) : Nat := if a < am_top then B + a else if a = am_top then b else if a ≤ am_top + 5 then adK (a - am_top - 1) else adV (a - am_top - 11)
theorem am_x_R {s : State} {b L : Nat} {xs : Nat → Int32} {adK adV : Nat → Nat} {vF : Value} {D : va_G} (hX : va_X b L xs s s.heap) (hbl : b < s.heap.size) (hK : vk_S 5 am_sn am_sb adK adV (am_old s.heap.size) s s.heap) :
    ∀ (k : Nat) (c : am_C), am_x L xs k = some c → am_ad s.heap.size b adK adV (am_top + k) < s.heap.size ∧ am_cR (am_ad s.heap.size b adK adV) vF D s.heap.size s (am_top + k) c s.heap := by
  have str : ∀ i : Nat, i < 5 → adK i < s.heap.size ∧ am_cR (am_ad s.heap.size b adK adV) vF D s.heap.size s (am_top + (i + 1)) (am_ob am_NS [.ref (am_top + (i + 11)), .int 0]) s.heap := by
    intro i hi
    obtain ⟨g1, g2, g3, g4⟩ := hK.1 i hi
    have e1 : am_ad s.heap.size b adK adV (am_top + (i + 1)) = adK i := by
      unfold am_ad
      rw [if_neg (by omega), if_neg (by omega), if_pos (by omega)]
      exact congrArg _ (by omega)
    have e2 : am_ad s.heap.size b adK adV (am_top + (i + 11)) = adV i := by
      unfold am_ad
      rw [if_neg (by omega), if_neg (by omega), if_neg (by omega)]
      exact congrArg _ (by omega)
    refine ⟨?_, Or.inr ⟨Nat.le_add_right _ _, rfl, _, _, rfl, by rw [e1]; exact g1, ?_, ?_⟩⟩
    · obtain ⟨cell, -, -, -, h⟩ := g1
      exact Nat.not_le.mp h
    · show va_OF "java/lang/String" "value" "[B" (.ref (am_ad s.heap.size b adK adV (am_top + (i + 11)))) _ _ _ _
      rw [e1, e2]
      exact g3
    · rw [e1]
      exact g2
  have byt : ∀ i : Nat, i < 5 → adV i < s.heap.size ∧ am_cR (am_ad s.heap.size b adK adV) vF D s.heap.size s (am_top + (i + 11)) (am_ia 2 (am_sn.getD i 0) (fun j => (am_sb.getD i []).getD j 0)) s.heap := by
    intro i hi
    obtain ⟨cell, h1, h2, h3, h4, h5, h6, h7⟩ := (hK.1 i hi).2.2.2
    have e2 : am_ad s.heap.size b adK adV (am_top + (i + 11)) = adV i := by
      unfold am_ad
      rw [if_neg (by omega), if_neg (by omega), if_neg (by omega)]
      exact congrArg _ (by omega)
    exact ⟨Nat.not_le.mp h7, cell, by rw [e2]; exact h1, h2, h3, ⟨h4, h5⟩, h6⟩
  have e1 : ∀ i : Nat, i < 5 → am_ad s.heap.size b adK adV (am_top + (i + 1)) = adK i := by
    intro i hi
    unfold am_ad
    rw [if_neg (by omega), if_neg (by omega), if_pos (by omega)]
    exact congrArg _ (by omega)
  have e2 : ∀ i : Nat, i < 5 → am_ad s.heap.size b adK adV (am_top + (i + 11)) = adV i := by
    intro i hi
    unfold am_ad
    rw [if_neg (by omega), if_neg (by omega), if_neg (by omega)]
    exact congrArg _ (by omega)
  intro k c hc
  match k, hc with
  | 0, hc =>
    cases hc
    obtain ⟨scr, h1, h2, h3, h4, h5⟩ := hX
    have e0 : am_ad s.heap.size b adK adV (am_top + 0) = b := by
      unfold am_ad
      rw [if_neg (by omega), if_pos (by omega)]
    exact ⟨by rw [e0]; exact hbl, scr, by rw [e0]; exact h1, h2, h3, ⟨Nat.le_of_eq h4.symm, by rw [h4]⟩, h5⟩
  | 1, hc => cases hc; exact ⟨by rw [e1 0 (by omega)]; exact (str 0 (by omega)).1, (str 0 (by omega)).2⟩
  | 2, hc => cases hc; exact ⟨by rw [e1 1 (by omega)]; exact (str 1 (by omega)).1, (str 1 (by omega)).2⟩
  | 3, hc => cases hc; exact ⟨by rw [e1 2 (by omega)]; exact (str 2 (by omega)).1, (str 2 (by omega)).2⟩
  | 4, hc => cases hc; exact ⟨by rw [e1 3 (by omega)]; exact (str 3 (by omega)).1, (str 3 (by omega)).2⟩
  | 5, hc => cases hc; exact ⟨by rw [e1 4 (by omega)]; exact (str 4 (by omega)).1, (str 4 (by omega)).2⟩
  | 6, hc => cases hc
  | 7, hc => cases hc
  | 8, hc => cases hc
  | 9, hc => cases hc
  | 10, hc => cases hc
  | 11, hc => cases hc; exact ⟨by rw [e2 0 (by omega)]; exact (byt 0 (by omega)).1, (byt 0 (by omega)).2⟩
  | 12, hc => cases hc; exact ⟨by rw [e2 1 (by omega)]; exact (byt 1 (by omega)).1, (byt 1 (by omega)).2⟩
  | 13, hc => cases hc; exact ⟨by rw [e2 2 (by omega)]; exact (byt 2 (by omega)).1, (byt 2 (by omega)).2⟩
  | 14, hc => cases hc; exact ⟨by rw [e2 3 (by omega)]; exact (byt 3 (by omega)).1, (byt 3 (by omega)).2⟩
  | 15, hc => cases hc; exact ⟨by rw [e2 4 (by omega)]; exact (byt 4 (by omega)).1, (byt 4 (by omega)).2⟩
  | k + 16, hc => cases hc
set_option maxHeartbeats 4000000 in
/-- THE LAW ON THE MACHINE out of the law on the plain machine -/
theorem am_law {p : Program} {e : Env} {s : State} {m : MethodId} {below : List Frame} {meth : Method} {c : Code} (l : Launch) {b L : Nat} {xs : Nat → Int32} (C0 : lw_At p s m meth c b L xs) {f : Nat} {σ' : am_H} (hrun : am_run am_dfl am_ms f k_L_law 0 [some (.ref am_top), none, none, none] [] (am_σ0 L xs) = some (some (.int 1), σ')) (h1 : σ'.1 ≤ 600000) (h2 : σ'.2.1 ≤ 7302250) :
    W p l e room_1 s m #[Value.ref b] below meth c s.heap [] 0 0 (lw_Z below #[Value.ref b] s) (entryFrame m ([Value.ref b] : List Value).toArray 4) := by
  obtain ⟨hx, hb, hr, hml, hown, hts, hX, hbl, hlocks, hgv⟩ := C0
  have hs := flat_of_before _ hgv
  obtain ⟨adK, adV, hK, htm⟩ := am_strs_at hgv
  have hA : ∀ a : Nat, a < s.heap.size → ¬ am_old s.heap.size a := fun a ha hz => absurd ha (Nat.not_lt.mpr hz)
  have hZ1 : va_Z "java/lang/String" "COMPACT_STRINGS" "Z" (.int 1) (am_old s.heap.size) s s.heap := va_Zof (hts (.laysStatic "java/lang/String" "COMPACT_STRINGS" "Z") (List.mem_of_getElem? (i := 619) (by decide +kernel))) (hts (.initialized "java/lang/String") (List.mem_of_getElem? (i := 67) (by decide +kernel))) (va_eqi (hs _ (by decide +kernel))) hA
  have hZ2 : va_Zq "jdk/internal/util/Preconditions" "SIOOBE_FORMATTER" "Ljava/util/function/BiFunction;" (am_old s.heap.size) s s.heap := va_Zqof (hts (.laysStatic "jdk/internal/util/Preconditions" "SIOOBE_FORMATTER" "Ljava/util/function/BiFunction;") (List.mem_of_getElem? (i := 635) (by decide +kernel))) (hts (.initialized "jdk/internal/util/Preconditions") (List.mem_of_getElem? (i := 69) (by decide +kernel))) (hs _ (by decide +kernel)) hA
  obtain ⟨vF, hF, hZ2⟩ : ∃ vF : Value, vF.category = 1 ∧ va_Z "jdk/internal/util/Preconditions" "SIOOBE_FORMATTER" "Ljava/util/function/BiFunction;" vF (am_old s.heap.size) s s.heap := by
    rcases hZ2 with h | ⟨t, h⟩
    · exact ⟨_, rfl, h⟩
    · exact ⟨_, rfl, h⟩
  have hcl : ∀ k : Nat, ∃ q : ClassId × (Nat → Nat), ∀ r : vw_C, am_cls[k]? = some r → u_Kn s r.1 r.2.1 r.2.2 q.1 q.2 := by
    intro k
    cases hk : am_cls[k]? with
    | none => exact ⟨(0, fun _ => 0), fun r h => by cases h⟩
    | some r =>
      obtain ⟨cC, iS, h⟩ := u_known (C := r.1) (T := r.2.1) (N := r.2.2) (n := r.2.2) hts (fun w hw => (am_cls_ws k r hk w hw).1) (hts _ (am_cls_inst k r hk))
      exact ⟨(cC, iS), fun r' hr' => by cases hr'; exact h⟩
  obtain ⟨g, hg⟩ := Classical.axiomOfChoice hcl
  obtain ⟨ad, had⟩ : ∃ ad, ad = am_ad s.heap.size b adK adV := ⟨_, rfl⟩
  have hB : ∀ a, a < am_top → ad a = s.heap.size + a := fun a ha => by rw [had]; unfold am_ad; rw [if_pos ha]
  have hb0 : ad am_top = b := by rw [had]; unfold am_ad; rw [if_neg (by omega), if_pos rfl]
  have hV : am_vm ad ((fun k => (g k).1), fun k => (g k).2) s := by
    refine ⟨fun k q hq => hg k q hq, fun w hw => ?_, fun C hC => va_AO.of (hts _ (am_aos_in C hC)), fun k q hq => ?_⟩
    · rcases am_nest_form w hw with ⟨a, i, b', n, d, hh, rfl⟩ | ⟨a, i, x, hh, rfl⟩
      · exact va_Nw.of rfl (hts _ (am_nest_in _ hw))
      · exact va_Nw.of rfl (hts _ (am_nest_in _ hw))
    · have hw := hts _ (am_strs_in k q hq)
      have hk : k < 5 := (List.getElem?_eq_some_iff.mp hq).1
      have e1 : ad (am_top + 1 + k) = adK k := by
        rw [had]
        unfold am_ad
        rw [if_neg (by omega), if_neg (by omega), if_pos (by omega)]
        exact congrArg _ (by omega)
      rw [e1]
      refine vk_R.of hw ?_
      have ht := htm k hk
      match k, hq, ht with
      | 0, hq, ht => cases hq; exact ht
      | 1, hq, ht => cases hq; exact ht
      | 2, hq, ht => cases hq; exact ht
      | 3, hq, ht => cases hq; exact ht
      | 4, hq, ht => cases hq; exact ht
      | k + 5, hq, _ => simp [am_strs] at hq
  have hR : am_R ad vF ((fun k => (g k).1), fun k => (g k).2) s.heap.size s (am_σ0 L xs) s.heap := by
    refine ⟨rfl, Nat.zero_le _, fun a q hq => ?_, hZ1, hZ2⟩
    have hq : (if a < am_top then none else am_x L xs (a - am_top)) = some q := hq
    by_cases ha : a < am_top
    · rw [if_pos ha] at hq; cases hq
    · rw [if_neg ha] at hq
      have hh := am_x_R (vF := vF) (D := ((fun k => (g k).1), fun k => (g k).2)) hX hbl hK _ _ hq
      rw [show am_top + (a - am_top) = a by omega, ← had] at hh
      exact ⟨Or.inr ⟨Nat.not_lt.mp ha, hh.1⟩, hh.2⟩
  have hsnd := am_sound l am_ms ad vF ((fun k => (g k).1), fun k => (g k).2) s.heap.size hF hB (by decide +kernel) am_ms_ok f
  have hM : am_ms[k_L_law]? = some rk_L_law := rfl
  have hin := am_in_lR (ad := ad) hF (n := 4) (as := [.ref am_top]) rfl
  rw [lg_entry_eq]
  have e0 : ([Value.ref am_top] : List Value).map (am_cv ad vF) = [Value.ref b] := by
    show [Value.ref (ad am_top)] = _
    rw [hb0]
  rw [e0] at hin
  refine hsnd k_L_law rk_L_law hM 0 _ [] _ σ' _ hrun p e room_1 s m _ below meth c _ ⟨hx, hb, hml, hown, fun w h _ => hts w h, hV, (fun h => absurd h (by decide +kernel)), (by decide +kernel), (by decide +kernel)⟩ s.heap [] _ 0 0 hin hR va_S.rf (by show 0 + (σ'.1 - 0) ≤ 600000; omega) (by show 0 + (σ'.2.1 - 0) ≤ 7302250; omega) ?_
  intro pc1 i st1 H1 locs1 ar1 hd hrt hR1 hS1
  cases i <;> try (simp [am_rt] at hrt; done)
  case ireturn =>
    simp only [am_rt] at hrt
    split at hrt
    · rename_i ty v hty
      split at hrt
      · cases hrt
        refine va_forget (fun q hq => hS1.2.2 q hq) ?_
        refine W.widen (k := 600000) (n := 7302250) (by show 0 + (σ'.1 - 0) ≤ 600000; omega) (by show 0 + (σ'.2.1 - 0) ≤ 7302250; omega) ?_
        exact lw_ret hx hb hr hlocks hd
      · cases hrt
    · cases hrt
  case lreturn =>
    simp only [am_rt] at hrt
    split at hrt <;> cases hrt
  case areturn =>
    simp only [am_rt] at hrt
    split at hrt <;> cases hrt
  case return_ =>
    simp only [am_rt] at hrt
    split at hrt <;> cases hrt
