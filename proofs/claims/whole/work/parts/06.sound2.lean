/-! THE PLAIN MACHINE IS SOUND, 2: the heap -/
def am_kt (k : Nat) : FieldType := match k with
  | 0 => .int
  | 1 => .boolean
  | _ => .byte
def am_aR (s : State) (ty : FieldType) (n : Nat) (f : Nat → Value) (cell : Cell) : Prop := s.isArrayOf cell ty ∧ cell.vm ≠ .unknown ∧ (n ≤ cell.slots.size ∧ cell.slots.size.toInt32 = Int32.ofNat n) ∧ ∀ j, j < n → cell.slots[j]? = some (f j)
def am_old (B : Nat) : Nat → Prop := fun q => B ≤ q
def am_cR (ad : Nat → Nat) (vF : Value) (D : va_G) (B : Nat) (s : State) (a : Nat) (c : am_C) (H : Heap) : Prop := match c with
  | .inl o => (a < am_top ∧ ∃ r : vw_C, am_cls[o.1]? = some r ∧ o.2.length = r.2.2 ∧ t_OB (ad a) (D.1 o.1) r.2.2 (D.2 o.1) H (vp_V (o.2.map (am_cv ad vF)))) ∨ (am_top ≤ a ∧ o.1 = am_NS ∧ ∃ v0 v1 : Value, o.2 = [v0, v1] ∧ va_O "java/lang/String" (ad a) (am_old B) s H ∧ va_OF "java/lang/String" "value" "[B" (am_cv ad vF v0) (ad a) (am_old B) s H ∧ va_OF "java/lang/String" "coder" "B" (am_cv ad vF v1) (ad a) (am_old B) s H)
  | .inr (.inl o) => ∃ cell : Cell, H[ad a]? = some cell ∧ am_aR s (am_kt o.1) o.2.1 (fun j => .int (o.2.2 j)) cell
  | .inr (.inr (.inl o)) => ∃ cell : Cell, H[ad a]? = some cell ∧ am_aR s .long o.1 (fun j => .long (o.2 j)) cell
  | .inr (.inr (.inr o)) => ∃ (cell : Cell) (r : vw_C) (kA : Class) (comp : ClassId), H[ad a]? = some cell ∧ am_cls[o.1]? = some r ∧ am_aR s (.object r.1) o.2.1 (fun j => va_rf ((o.2.2 j).map ad)) cell ∧ cell.vm = .none ∧ s.vm.classes[cell.cls]? = some kA ∧ kA.kind = .array comp (.object r.1) ∧ s.vm.findClass r.1 = some comp
def am_R (ad : Nat → Nat) (vF : Value) (D : va_G) (B : Nat) (s : State) (σ : am_H) (H : Heap) : Prop :=
  H.size = B + σ.1 ∧ σ.1 ≤ am_top ∧ (∀ (a : Nat) (c : am_C), σ.2.2 a = some c → (a < σ.1 ∨ (am_top ≤ a ∧ ad a < B)) ∧ am_cR ad vF D B s a c H) ∧
  va_Z "java/lang/String" "COMPACT_STRINGS" "Z" (.int 1) (am_old B) s H ∧ va_Z "jdk/internal/util/Preconditions" "SIOOBE_FORMATTER" "Ljava/util/function/BiFunction;" vF (am_old B) s H
theorem am_aR.moved {u U : State} (hvm : u.vm.Alike U.vm) {ty : FieldType} {n : Nat} {f : Nat → Value} {cell : Cell} (h : am_aR u ty n f cell) : am_aR U ty n f cell := ⟨State.isArrayOf_alike hvm h.1, h.2⟩
section AMR
variable {ad : Nat → Nat} {vF : Value} {D : va_G} {B : Nat} {s : State}
theorem am_cR.kept {a : Nat} {c : am_C} {H H1 : Heap} (h : am_cR ad vF D B s a c H) (h1 : H1[ad a]? = H[ad a]?) (h2 : ∀ q : Nat, q < H.size → ¬ am_old B q → H1[q]? = H[q]?) : am_cR ad vF D B s a c H1 := by
  match c, h with
  | .inl o, h =>
    rcases h with ⟨g0, r, g1, g2, g3⟩ | ⟨g0, g1, v0, v1, g2, g3, g4, g5⟩
    · exact Or.inl ⟨g0, r, g1, g2, g3.kept h1⟩
    · exact Or.inr ⟨g0, g1, v0, v1, g2, g3.kept h2, g4.kept h2, g5.kept h2⟩
  | .inr (.inl o), ⟨z, g1, g2⟩ => exact ⟨z, by rw [h1]; exact g1, g2⟩
  | .inr (.inr (.inl o)), ⟨z, g1, g2⟩ => exact ⟨z, by rw [h1]; exact g1, g2⟩
  | .inr (.inr (.inr o)), ⟨z, r, kA, comp, g1, g2⟩ => exact ⟨z, r, kA, comp, by rw [h1]; exact g1, g2⟩
theorem am_cR.moved {u U : State} (hvm : u.vm.Alike U.vm) {a : Nat} {c : am_C} {H : Heap} (h : am_cR ad vF D B u a c H) : am_cR ad vF D B U a c H := by
  match c, h with
  | .inl o, h =>
    rcases h with h | ⟨g0, g1, v0, v1, g2, g3, g4, g5⟩
    · exact Or.inl h
    · exact Or.inr ⟨g0, g1, v0, v1, g2, g3.moved hvm, g4.moved hvm, g5.moved hvm⟩
  | .inr (.inl o), ⟨z, g1, g2⟩ => exact ⟨z, g1, g2.moved hvm⟩
  | .inr (.inr (.inl o)), ⟨z, g1, g2⟩ => exact ⟨z, g1, g2.moved hvm⟩
  | .inr (.inr (.inr o)), ⟨z, r, kA, comp, g1, g2, g3, g4, g5, g6, g7⟩ =>
    obtain ⟨k', hk', he⟩ := hvm.2.2 _ _ g5
    exact ⟨z, r, k', comp, g1, g2, g3.moved hvm, g4, hk', by rw [he]; exact g6, by rw [hvm.findClass]; exact g7⟩
theorem am_R.moved {u U : State} (hvm : u.vm.Alike U.vm) {σ : am_H} {H : Heap} (h : am_R ad vF D B u σ H) : am_R ad vF D B U σ H :=
  ⟨h.1, h.2.1, fun a c hc => ⟨(h.2.2.1 a c hc).1, (h.2.2.1 a c hc).2.moved hvm⟩, va_Z.moved hvm h.2.2.2.1, va_Z.moved hvm h.2.2.2.2⟩
theorem am_R.put (hB : ∀ a, a < am_top → ad a = B + a) {σ : am_H} {H H1 : Heap} (h : am_R ad vF D B s σ H) {a : Nat} {c c' : am_C} (hc : am_get σ a = some c) (ha : a < am_top) (hz : H1.size = H.size) (oq : ∀ q : Nat, q ≠ ad a → H1[q]? = H[q]?) (hn : am_cR ad vF D B s a c' H1) : am_R ad vF D B s (am_set σ a c') H1 := by
  have hka : am_old B (ad a) := by rw [hB a ha]; exact Nat.le_add_right B a
  have h2 : ∀ q : Nat, q < H.size → ¬ am_old B q → H1[q]? = H[q]? := fun q _ hq => oq q (fun e => hq (by rw [e]; exact hka))
  obtain ⟨g1, g2, g3, g4, g5⟩ := h
  refine ⟨by rw [hz]; exact g1, g2, fun b d hd => ?_, g4.kept h2, g5.kept h2⟩
  have hd : (if b = a then some c' else σ.2.2 b) = some d := hd
  by_cases hba : b = a
  · rw [if_pos hba] at hd
    cases hd
    subst hba
    exact ⟨(g3 b c hc).1, hn⟩
  · rw [if_neg hba] at hd
    obtain ⟨k1, k2⟩ := g3 b d hd
    refine ⟨k1, k2.kept (oq _ ?_) h2⟩
    rcases k1 with k1 | ⟨k1, k1'⟩
    · rw [hB a ha, hB b (Nat.lt_of_lt_of_le k1 g2)]
      omega
    · intro e
      rw [e] at k1'
      exact absurd hka (by unfold am_old; omega)
theorem am_R.make (hB : ∀ a, a < am_top → ad a = B + a) {σ : am_H} {H H1 : Heap} (h : am_R ad vF D B s σ H) (ht : σ.1 < am_top) {n : Nat} {c' : am_C} (hz : H1.size = H.size + 1) (oq : ∀ q : Nat, q < H.size → H1[q]? = H[q]?) (hn : am_cR ad vF D B s σ.1 c' H1) : am_R ad vF D B s (am_new σ n c') H1 := by
  have h2 : ∀ q : Nat, q < H.size → ¬ am_old B q → H1[q]? = H[q]? := fun q hq _ => oq q hq
  obtain ⟨g1, g2, g3, g4, g5⟩ := h
  refine ⟨?_, ?_, fun b d hd => ?_, g4.kept h2, g5.kept h2⟩
  · rw [hz, g1]; rfl
  · exact ht
  have hd : (if b = σ.1 then some c' else σ.2.2 b) = some d := hd
  by_cases hba : b = σ.1
  · rw [if_pos hba] at hd
    cases hd
    subst hba
    exact ⟨Or.inl (Nat.lt_succ_self _), hn⟩
  · rw [if_neg hba] at hd
    obtain ⟨k1, k2⟩ := g3 b d hd
    have hlt : ad b < H.size := by
      rcases k1 with k1 | ⟨-, k1⟩
      · rw [hB b (Nat.lt_of_lt_of_le k1 g2), g1]; omega
      · rw [g1]; omega
    refine ⟨?_, k2.kept (oq _ hlt) h2⟩
    rcases k1 with k1 | k1
    · exact Or.inl (Nat.lt_succ_of_lt k1)
    · exact Or.inr k1
end AMR
/-- what the machine's tables say, at any state of a run -/
def am_vm (ad : Nat → Nat) (D : va_G) (s : State) : Prop :=
  (∀ (k : Nat) (q : vw_C), am_cls[k]? = some q → u_Kn s q.1 q.2.1 q.2.2 (D.1 k) (D.2 k)) ∧ (∀ w ∈ am_nest, va_Nw w s) ∧ (∀ C ∈ am_aos, va_AO C s) ∧ ∀ (k : Nat) (q : String × Nat × String), am_strs[k]? = some q → vk_R q.1 q.2.1 q.2.2 (ad (am_top + 1 + k)) s
theorem am_nest_form : ∀ w ∈ am_nest, (∃ a i b n d h, w = .fieldLinkNest a i b n d h) ∨ ∃ a i x h, w = .methodLinkNest a i x h := by
  intro w hw
  simp only [am_nest, List.mem_cons, List.not_mem_nil, or_false] at hw
  rcases hw with h | h
  all_goals first
    | exact Or.inl ⟨_, _, _, _, _, _, h⟩
    | exact Or.inr ⟨_, _, _, _, h⟩
    | skip
  all_goals (repeat (first | exact Or.inl ⟨_, _, _, _, _, _, h⟩ | exact Or.inr ⟨_, _, _, _, h⟩ | rcases h with h | h))
theorem am_vm.warm {ad : Nat → Nat} {D : va_G} {s U : State} (hW : s.WarmedH U.vm) (h : am_vm ad D s) : am_vm ad D U := by
  refine ⟨fun k q hq => u_Kn_moved hW.alike (h.1 k q hq), fun w hw => ?_, fun C hC => va_AO.moved hW.alike (h.2.2.1 C hC), fun k q hq => (h.2.2.2 k q hq).warm hW⟩
  rcases am_nest_form w hw with ⟨a, i, b, n, d, hh, rfl⟩ | ⟨a, i, x, hh, rfl⟩
  · exact va_Nw.warmF hW (h.2.1 _ hw)
  · exact va_Nw.warmM hW (h.2.1 _ hw)
theorem am_vm.same {ad : Nat → Nat} {D : va_G} {s U : State} (hv : s.vm = U.vm) (h : am_vm ad D s) : am_vm ad D U := by
  refine ⟨fun k q hq => u_Kn_moved (by rw [hv]; exact Vm.Alike.refl U.vm) (h.1 k q hq), fun w hw => ?_, fun C hC => va_AO.moved (by rw [hv]; exact Vm.Alike.refl U.vm) (h.2.2.1 C hC), fun k q hq => (h.2.2.2 k q hq).same hv.symm⟩
  rcases am_nest_form w hw with ⟨a, i, b, n, d, hh, rfl⟩ | ⟨a, i, x, hh, rfl⟩
  · exact va_Nw.same rfl hv (h.2.1 _ hw)
  · exact va_Nw.same rfl hv (h.2.1 _ hw)
