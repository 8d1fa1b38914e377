/-! RELATION, 5: searches; grids -/
theorem hasP_congr {fp fw : Nat → Nat} {f g : Nat → Int32} {q x : Nat} {old : Bool} : ∀ k, (∀ i, i < k → f i = g i) → hasP fp fw f q x old k = hasP fp fw g q x old k := by
  intro k
  induction k with
  | zero => intro _; rfl
  | succ k ih => intro h; simp only [hasP, h k (by omega), ih (fun i hi => h i (by omega))]
section FD
variable {clk : Int32} {n nt p np nc : Nat} {mk mi wm wt wv pw pi pa : Nat → Int32} {lm lt lv cp cw ca cg came : Nat → Int32} {fp fw : Nat → Nat}
theorem find_bit (C : BC clk n np nc lm lt lv cp cw ca cg came fp fw) (B : BW clk n nt p mk mi wm wt wv pw pi pa) (E : BE n p pw pi pa) (hnp : np ≤ 40) {t : Nat} (ht : t < n) {m : Int32} {isO : Nat → Bool} (hO : ∀ w, w < n → (isO w = true ↔ Anc (fun x => liesF pw pi pa x m p) (nI w) (nI t))) {F0 : Nat → Int64} {f : Nat → Int32} (hf : ∀ y, y < n → f y = liesF pw pi pa (nI y) m p) (hF : ∀ q, q < 40 → F0 q = 0) (old : Bool) {q : Nat} (hq : q < 64) : bitL (pwR (capR F0 fp fw lv old (tolR lm m nc 0)) (treR f n (nI t) n) 40) q = (decide (q < 40) && anyR (fun w => hasF cp cw ca cg (nI q) (nI w) m old nc && isO w) 0 n) := by
  have hn : n ≤ 40 := B.1.1
  have hle := tolR_le lm m nc 0
  rw [pwR_bit hq 40 (by decide)]
  by_cases c : q < 40
  · simp only [c, decide_true, Bool.true_and]
    apply bool_ext
    rw [anyR_iff]
    have cap : ∀ x, x < 64 → bitL (capR F0 fp fw lv old (tolR lm m nc 0) q) x = hasF cp cw ca cg (nI q) (nI x) m old nc := by
      intro x hx
      rw [capR_bit hx (by rw [hF q c]; exact bitL_0 x) _ (fun i hi => by have := (C.2.1 i (by omega)).1.2; omega), has_told C hn hnp (by omega) (by omega)]
      exact hasP_congr _ (fun i hi => (C.2.1 i (by omega)).2.1.2.2.2.2)
    have tre : ∀ x, x < 64 → (bitL (treR f n (nI t) n) x = true ↔ x < n ∧ Anc (fun x => liesF pw pi pa x m p) (nI x) (nI t)) := by
      intro x hx
      rw [treR_bit hx n (by omega)]
      by_cases cx : x < n
      · rw [hld_nI _ (by omega)]
        simp only [cx, decide_true, Bool.true_and, true_and]
        rw [chain_bit hn hf (Clo_of B m) (Or.inr ⟨x, cx, rfl⟩) (E m x cx) (by omega)]
        exact ⟨fun z => z.2, fun z => ⟨ht, z⟩⟩
      · simp [cx]
    constructor
    · intro h
      have h' : ¬ (capR F0 fp fw lv old (tolR lm m nc 0) q &&& treR f n (nI t) n = 0) := by simpa using h
      rw [bitL_z] at h'
      have : ∃ x, x < 64 ∧ bitL (capR F0 fp fw lv old (tolR lm m nc 0) q &&& treR f n (nI t) n) x = true := Classical.byContradiction fun z => h' fun j hj => by
        cases e : bitL (capR F0 fp fw lv old (tolR lm m nc 0) q &&& treR f n (nI t) n) j
        · rfl
        · exact absurd ⟨j, hj, e⟩ z
      obtain ⟨x, hx, e⟩ := this
      rw [bitL_and, Bool.and_eq_true, cap x hx, tre x hx] at e
      refine ⟨x, Nat.zero_le _, by omega, ?_⟩
      simp only [Bool.and_eq_true]
      exact ⟨e.1, (hO x e.2.1).mpr e.2.2⟩
    · rintro ⟨x, -, hx, e⟩
      simp only [Bool.and_eq_true] at e
      have hx' : x < n := by omega
      have b : bitL (capR F0 fp fw lv old (tolR lm m nc 0) q &&& treR f n (nI t) n) x = true := by
        rw [bitL_and, Bool.and_eq_true, cap x (by omega), tre x (by omega)]
        exact ⟨e.1, hx', (hO x hx').mp e.2⟩
      have : ¬ (capR F0 fp fw lv old (tolR lm m nc 0) q &&& treR f n (nI t) n = 0) := by
        intro z
        rw [z, bitL_0] at b
        cases b
      simpa using this
  · simp [c]
theorem any_out (C : BC clk n np nc lm lt lv cp cw ca cg came fp fw) (hn : n ≤ 40) (hnp : np ≤ 40) {isO : Nat → Bool} {m : Int32} {old : Bool} {q : Nat} (hq : q < 1000) (h : ¬ (q < np ∧ ¬ m < came q)) : anyR (fun w => hasF cp cw ca cg (nI q) (nI w) m old nc && isO w) 0 n = false := by
  cases e : anyR (fun w => hasF cp cw ca cg (nI q) (nI w) m old nc && isO w) 0 n
  · rfl
  · rw [anyR_iff] at e
    obtain ⟨x, -, hx, e⟩ := e
    simp only [Bool.and_eq_true] at e
    have := has_in C hn hnp hq (by omega) e.1
    exact absurd ⟨this.1, this.2.2⟩ h
end FD
theorem nib_in (g : Int64) (k : Nat) : ∃ v, v < 16 ∧ nib g k = nI v := by
  unfold nib
  generalize (g >>> (((4 : Int32) * nI k).toInt64 &&& 63)) = y
  refine ⟨y.toBitVec.toNat % 16, Nat.mod_lt _ (by decide), ?_⟩
  apply Int32.toBitVec_inj.mp
  apply BitVec.eq_of_toNat_eq
  show ((y &&& 15).toBitVec.signExtend 32).toNat = (BitVec.ofNat 32 _).toNat
  rw [BitVec.signExtend_eq_setWidth_of_le _ (by decide), BitVec.toNat_setWidth, BitVec.toNat_ofNat, Int64.toBitVec_and, BitVec.toNat_and]
  have e : (15 : Int64).toBitVec.toNat = 2 ^ 4 - 1 := by decide
  rw [e, Nat.and_two_pow_sub_one_eq_mod]
theorem sru {s j : Nat} (hs : s < 64) (g : Int64) (hj : s + j < 64) : bitL ((g.toUInt64 >>> ((nI s).toInt64.toUInt64 &&& Int64.toUInt64 63)).toInt64) j = bitL g (s + j) := by
  have sh : ∀ s : Fin 64, (((nI s.1).toInt64.toUInt64 &&& Int64.toUInt64 63).toBitVec % 64#64).toNat = s.1 := by decide +kernel
  show (g.toBitVec >>> (((nI s).toInt64.toUInt64 &&& Int64.toUInt64 63).toBitVec % 64#64)).getLsbD j = g.toBitVec.getLsbD (s + j)
  rw [BitVec.ushiftRight_eq', sh ⟨s, hs⟩, BitVec.getLsbD_ushiftRight]
theorem srs {s j : Nat} (hs : s < 64) (g : Int64) (hj : s + j < 64) : bitL (g >>> ((nI s).toInt64 &&& 63)) j = bitL g (s + j) := by
  unfold bitL
  rw [Int64.toBitVec_shiftRight]
  have e := sh64 ⟨s, hs⟩
  show BitVec.getLsbD (g.toBitVec.sshiftRight' (((nI s).toInt64 &&& 63).toBitVec.smod 64)) j = _
  rw [e, BitVec.getLsbD_sshiftRight']
  have e1 : (BitVec.ofNat 64 s).toNat = s := by simp; omega
  rw [e1]
  simp [hj]
  omega
theorem nib_eq (g : Int64) {k : Nat} (hk : k < 16) : nibU g k = nib g k := by
  unfold nibU nib
  have e4 : (4 : Int32) = nI 4 := by decide
  rw [e4, pk_mul]
  congr 1
  apply bitL_ext
  intro j hj
  rw [bitL_and, bitL_and]
  have b15 : ∀ j : Fin 64, bitL 15 j.1 = decide (j.1 < 4) := by decide +kernel
  rw [b15 ⟨j, hj⟩]
  by_cases c : j < 4
  · rw [sru (by omega) g (by omega), srs (by omega) g (by omega)]
  · simp [c]
theorem abs_sym : ∀ x y : Fin 16, absI (nI x.1 - nI y.1) = absI (nI y.1 - nI x.1) := by decide +kernel
theorem abs_eq (d : Int32) : (if d < 0 then -d else d) = absI d := by
  unfold absI
  by_cases c : d < 0
  · rw [if_pos c, if_neg (Int32.not_le.mpr c), Int32.zero_sub]
  · rw [if_neg c, if_pos (Int32.not_lt.mp c)]
theorem farF_abs (f : Nat → Int32) (i j : Nat) : ∀ n, farF f i j n = match n with | 0 => 0 | k + 1 => farF f i j k + absI (f (16 * i + k) - f (16 * j + k)) := by
  intro n
  cases n with
  | zero => rfl
  | succ k => show farF f i j k + _ = _; rw [abs_eq]
theorem farF_congr {f g : Nat → Int32} {i j : Nat} : ∀ n, (∀ k, k < n → f (16 * i + k) = g (16 * i + k) ∧ f (16 * j + k) = g (16 * j + k)) → farF f i j n = farF g i j n := by
  intro n
  induction n with
  | zero => intro _; rfl
  | succ n ih =>
    intro h
    have h1 := h n (by omega)
    simp only [farF, h1.1, h1.2, ih (fun k hk => h k (by omega))]
theorem farF_dif {f : Nat → Int32} {i j : Nat} {a b : Int64} : ∀ n, n ≤ 16 → (∀ k, k < n → f (16 * i + k) = nib a k ∧ f (16 * j + k) = nib b k) → farF f i j n = difF a b n := by
  intro n
  induction n with
  | zero => intro _ _; rfl
  | succ n ih =>
    intro hn h
    have h1 := h n (by omega)
    rw [farF_abs]
    show farF f i j n + absI (f (16 * i + n) - f (16 * j + n)) = difF a b n + absI (nibU a n - nibU b n)
    rw [ih (by omega) (fun k hk => h k (by omega)), h1.1, h1.2, nib_eq a (by omega), nib_eq b (by omega)]
theorem difF_sym (a b : Int64) : ∀ n, n ≤ 16 → difF a b n = difF b a n := by
  intro n
  induction n with
  | zero => intro _; rfl
  | succ n ih =>
    intro hn
    obtain ⟨x, hx, ex⟩ := nib_in a n
    obtain ⟨y, hy, ey⟩ := nib_in b n
    show difF a b n + absI (nibU a n - nibU b n) = difF b a n + absI (nibU b n - nibU a n)
    rw [ih (by omega), nib_eq a (by omega), nib_eq b (by omega), ex, ey]
    have := abs_sym ⟨x, hx⟩ ⟨y, hy⟩
    rw [this]
theorem farF_self (f : Nat → Int32) (i : Nat) : ∀ n, farF f i i n = 0 := by
  intro n
  induction n with
  | zero => rfl
  | succ n ih =>
    rw [farF_abs]
    show farF f i i n + absI (f (16 * i + n) - f (16 * i + n)) = 0
    rw [ih, Int32.sub_self]
    decide
