/-! THE PLAIN MACHINE IS SOUND, 6: the theorem -/
def am_Q (ad : Nat → Nat) (vF : Value) (D : va_G) (B : Nat) (r : Option Value) (σ : am_H) : Array Value → State → Outcome → State → Prop := fun _ st o t => o = .returned (r.map (am_cv ad vF)) ∧ am_R ad vF D B t σ t.heap ∧ va_F (am_old B) st t
def am_P (ad : Nat → Nat) (vF : Value) (D : va_G) (B : Nat) (as : List Value) (σ : am_H) : Array Value → State → Prop := va_Pc (as.map (am_cv ad vF)) (fun U => am_vm ad D U ∧ am_R ad vF D B U σ U.heap)
def am_ws (M : am_M) : List Jvm.Cond := .code M.1 M.2.1 M.2.2.1 M.2.2.2.1 :: lw_tbl.filter goodWord
def am_rm (M : am_M) (σ σ' : am_H) : Room := { frames := M.2.2.2.2.2.1, cells := σ'.1 - σ.1, slots := σ'.2.1 - σ.2.1, locals := M.2.2.2.2.2.2.1 }
theorem am_P_blind {ad : Nat → Nat} {vF : Value} {D : va_G} {B : Nat} {as : List Value} {σ : am_H} : FrameBlind (am_P ad vF D B as σ) := fun a U g mk q =>
  ⟨q.1, am_vm.same (s := U) (U := U.calling g mk a) rfl q.2.1, am_R.moved (u := U) (U := U.calling g mk a) (Vm.Alike.refl U.vm) q.2.2⟩
section AMC
variable {p : Program} {l : Launch} {e : Env} {R : Room} {s : State} {m : MethodId} {args : Array Value} {below : List Frame} {meth : Method} {c : Code} {H : Heap} {locs : List Loc} {cells slots : Nat} {Q : State → Prop}
variable {pc mc ms0 : Nat} {ls : Array Slot} {ad : Nat → Nat} {vF : Value} {D : va_G} {B : Nat} {σ1 : am_H} {r1 : Option Value}
theorem am_cont {rest st0 : List Value} {a : Array Value} (hr : va_Run p l e R s m args below meth c H locs cells slots mc ms0 (F0 m pc ls st0) rest (am_Q ad vF D B r1 σ1 a) (am_old B)) (hS : va_S (am_old B) s.heap H locs)
    (kk : ∀ (H1 : Heap) (locs1 : List Loc), am_R ad vF D B s σ1 H1 → va_S (am_old B) s.heap H1 locs1 → W p l e R s m args below meth c H1 locs1 (cells + mc) (slots + ms0) Q (F0 m (pc + 3) ls ((r1.map (am_cv ad vF)).toList ++ rest))) : W p l e R s m args below meth c H locs cells slots Q (F0 m pc ls st0) := by
  intro T hT X
  obtain ⟨v, st₀, t, T', L, h0, X', hL, e1, e2, ⟨hv, hR1, hz, hk⟩, st⟩ := hr T hT X
  cases hv
  rw [h0] at hz hk
  have hal : t.vm.Alike s.vm := by rw [← e2]; exact X'.warmed.alike.symm
  obtain ⟨t2, a1, b1⟩ := kk T'.heap (locs ++ L) (by rw [e1]; exact hR1.moved hal)
    ⟨Nat.le_trans hS.1 (by rw [e1]; exact hz), fun q h1 h2 => by rw [e1, hk q (Nat.lt_of_lt_of_le h1 hS.1) h2]; exact hS.2.1 q h1 h2, fun q hq => by
      rcases List.mem_append.mp hq with h | h
      · exact hS.2.2 q h
      · exact hL q h⟩ T' rfl X'
  exact ⟨t2, st t2 a1, b1⟩
end AMC
/-- what holds of the frame of a method that runs -/
def am_Fr (ad : Nat → Nat) (D : va_G) (M : am_M) (p : Program) (R : Room) (s : State) (m : MethodId) (args : Array Value) (meth : Method) (c : Code) : Prop :=
  p.tables.exec = Jvm.exec ∧ c.code = M.2.1 ∧ c.maxLocals = M.2.2.1 ∧ s.vm.findClass M.1.cls = some m.cls ∧ (∀ w ∈ lw_tbl, goodWord w = true → w.before args s = true) ∧ am_vm ad D s ∧ (decide (M.1.name = "<init>") = true → meth.name = "<init>") ∧ M.2.2.2.2.2.1 ≤ R.frames ∧ M.2.2.2.2.2.2.1 ≤ R.locals
/-- the statement that is proved by the number of rows -/
def am_Snd (l : Launch) (ms : List am_M) (ad : Nat → Nat) (vF : Value) (D : va_G) (B f : Nat) : Prop :=
  ∀ (j : Nat) (M : am_M), ms[j]? = some M → ∀ (pc : Nat) (lsA : am_L) (stA : List Value) (σ σ' : am_H) (r : Option Value), am_run am_dfl ms f j pc lsA stA σ = some (r, σ') →
  ∀ (p : Program) (e : Env) (R : Room) (s : State) (m : MethodId) (args : Array Value) (below : List Frame) (meth : Method) (c : Code) (Q : State → Prop), am_Fr ad D M p R s m args meth c →
  ∀ (H : Heap) (locs : List Loc) (ar : Array Slot) (cells slots : Nat), am_lR ad vF M.2.2.1 lsA ar → am_R ad vF D B s σ H → va_S (am_old B) s.heap H locs → cells + (σ'.1 - σ.1) ≤ R.cells → slots + (σ'.2.1 - σ.2.1) ≤ R.slots →
  (∀ (pc1 : Nat) (i : Instr) (st1 : List Value) (H1 : Heap) (locs1 : List Loc) (ar1 : Array Slot), decode M.2.1 pc1 = .ok (i, am_len i) → am_rt M.2.2.2.1 i st1 = some r → am_R ad vF D B s σ' H1 → va_S (am_old B) s.heap H1 locs1 → W p l e R s m args below meth c H1 locs1 (cells + (σ'.1 - σ.1)) (slots + (σ'.2.1 - σ.2.1)) Q (F0 m pc1 ar1 (st1.map (am_cv ad vF)))) →
  W p l e R s m args below meth c H locs cells slots Q (F0 m pc ar (stA.map (am_cv ad vF)))
theorem am_rt_ok {ad : Nat → Nat} {vF : Value} {D : va_G} {B : Nat} {M : am_M} {r : Option Value} {σ σ' : am_H} {p : Program} {l : Launch} {e : Env} {R : Room} {s : State} {m : MethodId} {args : Array Value} {below : List Frame} {meth : Method} {c : Code} {H1 : Heap} {locs1 : List Loc} {ar1 : Array Slot} {pc1 : Nat} {i : Instr} {st1 : List Value} {mc ms0 : Nat}
    (hx : p.tables.exec = Jvm.exec) (hb : c.code = M.2.1) (hr : meth.sig.returnType = M.2.2.2.1) (hlocks : meth.locks = false) (hd : decode M.2.1 pc1 = .ok (i, am_len i)) (hrt : am_rt M.2.2.2.1 i st1 = some r) (hR : am_R ad vF D B s σ' H1) (hS : va_S (am_old B) s.heap H1 locs1) :
    W p l e R s m args below meth c H1 locs1 mc ms0 (MQ below (am_Q ad vF D B r σ') args s mc ms0 (am_old B)) (F0 m pc1 ar1 (st1.map (am_cv ad vF))) := by
  have hq : ∀ t : State, t.heap = H1 → s.WarmedH t.vm → am_Q ad vF D B r σ' args s (.returned (r.map (am_cv ad vF))) t := fun t ht hW => ⟨rfl, by rw [ht]; exact hR.moved hW.alike, hS.F ht⟩
  cases i
  case ireturn =>
    simp only [am_rt] at hrt
    split at hrt
    · rename_i ty v hty
      split at hrt
      · rename_i hn
        cases hrt
        rw [hty] at hr
        have hnn : narrow ty (.int v) = .int v := by
          cases ty <;> simp [am_nar] at hn
          · rw [narrow_byte, hn]
          · show Value.int _ = _
            have h0 : (0 : Int) ≤ v.toInt := by simpa using Int32.le_iff_toInt_le.mp hn.1
            have h1 : v.toInt < 65536 := by
              have := Int32.le_iff_toInt_le.mp hn.2
              have h5 : (65535 : Int32).toInt = 65535 := by decide
              omega
            exact congrArg Value.int (lg_i2c_small h0 h1)
          · rfl
          · rcases hn with rfl | rfl <;> decide +kernel
        exact W.zret hx hb hr hnn hq hS.2.2 hd hlocks
      · cases hrt
    · cases hrt
  case lreturn =>
    simp only [am_rt] at hrt
    split at hrt
    · rename_i v hty
      cases hrt
      rw [hty] at hr
      exact W.lret hx hb hr hq hS.2.2 hd hlocks
    · cases hrt
  case areturn =>
    simp only [am_rt] at hrt
    split at hrt
    · rename_i C a hty
      cases hrt
      rw [hty] at hr
      exact W.aret hx hb hr (Or.inl ⟨_, rfl⟩) (Or.inr ⟨_, rfl⟩) hq hS.2.2 hd hlocks
    · rename_i C hty
      cases hrt
      rw [hty] at hr
      exact W.aret hx hb hr (Or.inl ⟨_, rfl⟩) (Or.inl rfl) hq hS.2.2 hd hlocks
    · cases hrt
  case return_ =>
    simp only [am_rt] at hrt
    split at hrt
    · rename_i hty
      cases hrt
      rw [hty] at hr
      exact W.vret hx hb hr hq hS.2.2 hd hlocks
    · cases hrt
  all_goals (simp only [am_rt] at hrt; try cases hrt)
set_option maxHeartbeats 4000000 in
/-- a method's contract out of its run -/
theorem am_met {l : Launch} {ms : List am_M} {ad : Nat → Nat} {vF : Value} {D : va_G} {B f : Nat} (hF : vF.category = 1) (hS : am_Snd l ms ad vF D B f) {j : Nat} {M : am_M} (hM : ms[j]? = some M) (hpl : plainName M.1.cls = true) {as : List Value} {σ σ' : am_H} {r : Option Value} (hlen : (am_in M.2.2.1 as).length = M.2.2.1) (hrun : am_run am_dfl ms f j 0 (am_in M.2.2.1 as) [] σ = some (r, σ')) :
    Met l M.1 (am_ws M) (am_rm M σ σ') (am_P ad vF D B as σ) (am_Q ad vF D B r σ') (σ'.1 - σ.1) (σ'.2.1 - σ.2.1) (am_old B) := by
  refine Met.ofW (cc := M.2.1) (maxL := M.2.2.1) (ret := M.2.2.2.1) hpl rfl ?_
  intro p e s m args below meth c s₁ Bd hml hv
  obtain ⟨rfl, hV, hR⟩ := hv
  have hts := atoms_spec (ws := am_ws M) Bd.pre
  rw [lg_entry_eq]
  refine hS j M hM 0 _ [] σ σ' r hrun p e (headSpec (am_ws M) (am_rm M σ σ')).room s m _ below meth c _ ⟨Bd.exec, Bd.bytes, hml, findClass_of_methodNamed Bd.named, fun w h1 h2 => hts w (List.mem_cons_of_mem _ (List.mem_filter.mpr ⟨h1, h2⟩)), hV, fun hi => ?_, Nat.le_refl _, Nat.le_refl _⟩ s.heap [] _ 0 0 (am_in_lR hF hlen) hR va_S.rf (by rw [Nat.zero_add]; exact Nat.le_refl _) (by rw [Nat.zero_add]; exact Nat.le_refl _) ?_
  · rw [(name_of_methodNamed Bd.named Bd.method).1]
    exact of_decide_eq_true hi
  · intro pc1 i st1 H1 locs1 ar1 hd hrt hR1 hS1
    rw [Nat.zero_add, Nat.zero_add]
    exact am_rt_ok (σ := σ) Bd.exec Bd.bytes Bd.returns Bd.notSynchronized hd hrt hR1 hS1
