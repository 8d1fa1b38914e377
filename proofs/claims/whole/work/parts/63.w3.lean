/-! RELATION, 3: words made and put -/
theorem upd_ne {f : Nat → Int32} {n j : Nat} {x : Int32} (h : ¬ j = n) : upd f n x j = f j := by simp [upd, h]
theorem upd_eq {f : Nat → Int32} {n : Nat} {x : Int32} : upd f n x n = x := by simp [upd]
theorem lies_congr {pw pi pa qw qi qa : Nat → Int32} {x m : Int32} : ∀ p, (∀ k, k < p → pw k = qw k ∧ pi k = qi k ∧ pa k = qa k) → liesF pw pi pa x m p = liesF qw qi qa x m p := by
  intro p
  induction p with
  | zero => intro _; rfl
  | succ p ih =>
    intro h
    obtain ⟨a, b, c⟩ := h p (by omega)
    simp only [liesF, a, b, c, ih (fun k hk => h k (by omega))]
theorem lat_congr {fm ft fv gm gt gv : Nat → Int32} {x m d : Int32} : ∀ p, (∀ k, k < p → fm k = gm k ∧ ft k = gt k ∧ fv k = gv k) → latF fm ft fv x m d p = latF gm gt gv x m d p := by
  intro p
  induction p with
  | zero => intro _; rfl
  | succ p ih =>
    intro h
    obtain ⟨a, b, c⟩ := h p (by omega)
    simp only [latF, a, b, c, ih (fun k hk => h k (by omega))]
theorem lies_new {pw pi pa : Nat → Int32} {p : Nat} (a b c x m : Int32) : liesF (upd pw p a) (upd pi p b) (upd pa p c) x m (p + 1) = if a = x then (if m < c then liesF pw pi pa x m p else b) else liesF pw pi pa x m p := by
  have e : liesF (upd pw p a) (upd pi p b) (upd pa p c) x m p = liesF pw pi pa x m p := lies_congr p (fun k hk => ⟨upd_ne (by omega), upd_ne (by omega), upd_ne (by omega)⟩)
  simp only [liesF, upd_eq, e]
theorem lat_new {fm ft fv : Nat → Int32} {n : Nat} (a b c x m d : Int32) : latF (upd fm n a) (upd ft n b) (upd fv n c) x m d (n + 1) = if b = x then (if m < a then latF fm ft fv x m d n else c) else latF fm ft fv x m d n := by
  have e : latF (upd fm n a) (upd ft n b) (upd fv n c) x m d n = latF fm ft fv x m d n := lat_congr n (fun k hk => ⟨upd_ne (by omega), upd_ne (by omega), upd_ne (by omega)⟩)
  simp only [latF, upd_eq, e]
theorem lies_none {pw pi pa : Nat → Int32} {x m : Int32} : ∀ p, (∀ k, k < p → ¬ pw k = x) → liesF pw pi pa x m p = -1 := by
  intro p
  induction p with
  | zero => intro _; rfl
  | succ p ih =>
    intro h
    simp only [liesF, if_neg (h p (by omega)), ih (fun k hk => h k (by omega))]
theorem lat_none {fm ft fv : Nat → Int32} {x m d : Int32} : ∀ p, (∀ k, k < p → ¬ ft k = x) → latF fm ft fv x m d p = d := by
  intro p
  induction p with
  | zero => intro _; rfl
  | succ p ih =>
    intro h
    simp only [latF, if_neg (h p (by omega)), ih (fun k hk => h k (by omega))]
theorem lies_late {pw pi pa : Nat → Int32} {x m clk : Int32} (hm : ¬ m < clk) : ∀ p, (∀ k, k < p → ¬ clk < pa k) → liesF pw pi pa x m p = liesF pw pi pa x clk p := by
  intro p
  induction p with
  | zero => intro _; rfl
  | succ p ih =>
    intro h
    have h1 := h p (by omega)
    have h2 : ¬ m < pa p := fun z => hm (Int32.lt_of_lt_of_le z (Int32.not_lt.mp h1))
    simp only [liesF, if_neg h1, if_neg h2, ih (fun k hk => h k (by omega))]
def inW (n : Nat) (i : Int32) : Prop := i = -1 ∨ ∃ x, x < n ∧ i = nI x
theorem inW_up {n : Nat} {i : Int32} (h : inW n i) : inW (n + 1) i := h.elim Or.inl (fun ⟨x, a, b⟩ => Or.inr ⟨x, by omega, b⟩)
section BWs
variable {clk : Int32} {n nt p : Nat} {mk mi lm lt lv pw pi pa : Nat → Int32}
theorem BW_clk (B : BW clk n nt p mk mi lm lt lv pw pi pa) {c2 : Int32} (hc : ¬ c2 < clk) : BW c2 n nt p mk mi lm lt lv pw pi pa := by
  obtain ⟨h1, h4, h5, h6, h7, h8⟩ := B
  have tr : ∀ x : Int32, ¬ clk < x → ¬ c2 < x := fun x h z => hc (Int32.lt_of_lt_of_le z (Int32.not_lt.mp h))
  exact ⟨h1, h4, fun k hk => ⟨(h5 k hk).1, tr _ (h5 k hk).2⟩, fun j hj => ⟨(h6 j hj).1, tr _ (h6 j hj).2.1, (h6 j hj).2.2⟩, h7, fun w hw => ⟨tr _ (h8 w hw).1, (h8 w hw).2⟩⟩
theorem BW_word (B : BW clk n nt p mk mi lm lt lv pw pi pa) (hn : n < 40) {i : Int32} (hi : inW n i) : BW clk (n + 1) nt (p + 1) (upd mk n clk) (upd mi n i) lm lt lv (upd pw p (nI n)) (upd pi p i) (upd pa p clk) := by
  obtain ⟨⟨h1, h2, h3⟩, h4, h5, h6, h7, h8⟩ := B
  refine ⟨⟨by omega, h2, by omega⟩, fun w hw m => ?_, fun k hk => ?_, fun j hj => ?_, h7, fun w hw => ?_⟩
  · rw [lies_new]
    by_cases e : w = n
    · subst e
      rw [if_pos rfl, upd_eq, upd_eq]
      have e1 : liesF pw pi pa (nI w) m p = -1 := lies_none p (fun k hk z => by
        obtain ⟨⟨x, hx, ex⟩, -⟩ := h5 k hk
        have := (nI_eq (by omega) (by omega)).mp (ex.symm.trans z)
        omega)
      have e2 : latF lm lt lv (nI w) m i nt = i := lat_none nt (fun k hk z => by
        obtain ⟨⟨x, hx, ex, -⟩, -⟩ := h6 k hk
        have := (nI_eq (by omega) (by omega)).mp (ex.symm.trans z)
        omega)
      rw [e1, e2]
    · have ne : ¬ nI n = nI w := fun z => e ((nI_eq (by omega) (by omega)).mp z).symm
      rw [if_neg ne, upd_ne e, upd_ne e]
      exact h4 w (by omega) m
  · by_cases e : k = p
    · subst e
      rw [upd_eq, upd_eq]
      exact ⟨⟨n, by omega, rfl⟩, Int32.lt_irrefl⟩
    · rw [upd_ne e, upd_ne e]
      obtain ⟨⟨x, hx, ex⟩, hc⟩ := h5 k (by omega)
      exact ⟨⟨x, by omega, ex⟩, hc⟩
  · obtain ⟨⟨x, hx, ex, hm⟩, hc, hv⟩ := h6 j hj
    exact ⟨⟨x, by omega, ex, by rw [upd_ne (by omega)]; exact hm⟩, hc, inW_up hv⟩
  · by_cases e : w = n
    · subst e
      rw [upd_eq, upd_eq]
      exact ⟨Int32.lt_irrefl, inW_up hi⟩
    · rw [upd_ne e, upd_ne e]
      obtain ⟨a, b⟩ := h8 w (by omega)
      exact ⟨a, inW_up b⟩
theorem BW_put (B : BW clk n nt p mk mi lm lt lv pw pi pa) (hnt : nt < 100) {i : Int32} (hi : inW n i) {w : Nat} (hw : w < n) : BW clk n (nt + 1) (p + 1) mk mi (upd lm nt clk) (upd lt nt (nI w)) (upd lv nt i) (upd pw p (nI w)) (upd pi p i) (upd pa p clk) := by
  obtain ⟨⟨h1, h2, h3⟩, h4, h5, h6, h7, h8⟩ := B
  refine ⟨⟨h1, by omega, by omega⟩, fun x hx m => ?_, fun k hk => ?_, fun j hj => ?_, fun j hj => ?_, h8⟩
  · rw [lies_new, lat_new, h4 x hx m]
    by_cases e : nI w = nI x
    · rw [if_pos e, if_pos e]
      have : w = x := (nI_eq (by omega) (by omega)).mp e
      subst this
      by_cases c1 : m < mk w
      · have c2 : m < clk := Int32.lt_of_lt_of_le c1 (Int32.not_lt.mp (h8 w hw).1)
        simp only [if_pos c1, if_pos c2]
      · simp only [if_neg c1]
    · rw [if_neg e, if_neg e]
  · by_cases e : k = p
    · subst e
      rw [upd_eq, upd_eq]
      exact ⟨⟨w, hw, rfl⟩, Int32.lt_irrefl⟩
    · rw [upd_ne e, upd_ne e]
      exact h5 k (by omega)
  · by_cases e : j = nt
    · subst e
      rw [upd_eq, upd_eq, upd_eq]
      exact ⟨⟨w, hw, rfl, (h8 w hw).1⟩, Int32.lt_irrefl, hi⟩
    · rw [upd_ne e, upd_ne e, upd_ne e]
      exact h6 j (by omega)
  · by_cases e : j + 1 = nt
    · rw [e, upd_eq, upd_ne (by omega)]
      exact (h6 j (by omega)).2.1
    · rw [upd_ne e, upd_ne (by omega)]
      exact h7 j (by omega)
/-- each word's way up ends, at each minute -/
def BE (n p : Nat) (pw pi pa : Nat → Int32) : Prop := ∀ m w, w < n → Ends (fun x => liesF pw pi pa x m p) (nI w)
theorem ends_m1 (P : Int32 → Int32) : Ends P (-1) := ⟨0, by show (-1 : Int32) < 0; decide⟩
theorem BE_in (E : BE n p pw pi pa) {i : Int32} (hi : inW n i) (m : Int32) : Ends (fun x => liesF pw pi pa x m p) i := by
  rcases hi with h | ⟨x, hx, h⟩
  · rw [h]; exact ends_m1 _
  · rw [h]; exact E m x hx
theorem Clo_of (B : BW clk n nt p mk mi lm lt lv pw pi pa) (m : Int32) : Clo (fun x => liesF pw pi pa x m p) n := fun w hw => lies_in B m hw
theorem lies_early {a b c x m : Int32} (hm : m < c) : liesF (upd pw p a) (upd pi p b) (upd pa p c) x m (p + 1) = liesF pw pi pa x m p := by
  rw [lies_new]
  simp [hm]
theorem BE_word (B : BW clk n nt p mk mi lm lt lv pw pi pa) (E : BE n p pw pi pa) (hn : n < 40) {i : Int32} (hi : inW n i) : BE (n + 1) (p + 1) (upd pw p (nI n)) (upd pi p i) (upd pa p clk) := by
  intro m w hw
  have hN : ∀ y, y < n → ¬ nI y = nI n := fun y hy z => by have := (nI_eq (by omega) (by omega)).mp z; omega
  have none : ∀ m, liesF pw pi pa (nI n) m p = -1 := fun m => lies_none p (fun k hk z => by
    obtain ⟨⟨x, hx, ex⟩, -⟩ := B.2.2.1 k hk
    exact hN x hx (ex.symm.trans z))
  by_cases c : m < clk
  · have e : (fun x => liesF (upd pw p (nI n)) (upd pi p i) (upd pa p clk) x m (p + 1)) = fun x => liesF pw pi pa x m p := by
      funext x
      exact lies_early c
    rw [e]
    by_cases e2 : w = n
    · subst e2
      exact ⟨1, by show liesF pw pi pa (nI w) m p < 0; rw [none]; decide⟩
    · exact E m w (by omega)
  · have hP : ∀ y, ¬ y = nI n → liesF (upd pw p (nI n)) (upd pi p i) (upd pa p clk) y m (p + 1) = liesF pw pi pa y m p := by
      intro y hy
      rw [lies_new, if_neg (fun z => hy z.symm)]
    have hv : liesF (upd pw p (nI n)) (upd pi p i) (upd pa p clk) (nI n) m (p + 1) = i := by
      rw [lies_new, if_pos rfl, if_neg c]
    have hE : Ends (fun x => liesF (upd pw p (nI n)) (upd pi p i) (upd pa p clk) x m (p + 1)) i := by
      obtain ⟨k, hk⟩ := BE_in E hi m
      refine ends_same (P := fun x => liesF pw pi pa x m p) (a := nI n) hP k i hk (fun ⟨q, a1, a2⟩ => ?_)
      obtain ⟨y, hy, ey⟩ := itP_in (by omega) (Clo_of B m) q i hi a1
      exact hN y hy (ey.symm.trans a2)
    by_cases e2 : w = n
    · subst e2
      obtain ⟨k, hk⟩ := hE
      refine ⟨k + 1, ?_⟩
      show itP _ k (liesF (upd pw p (nI w)) (upd pi p i) (upd pa p clk) (nI w) m (p + 1)) < 0
      rw [hv]
      exact hk
    · obtain ⟨k, hk⟩ := E m w (by omega)
      exact ends_upd (P := fun x => liesF pw pi pa x m p) (a := nI n) hP (by
        show Ends _ (liesF (upd pw p (nI n)) (upd pi p i) (upd pa p clk) (nI n) m (p + 1))
        rw [hv]
        exact hE) k _ hk
theorem BE_put (B : BW clk n nt p mk mi lm lt lv pw pi pa) (E : BE n p pw pi pa) {i : Int32} (hi : inW n i) {w : Nat} (hw : w < n) (hA : ¬ Anc (fun x => liesF pw pi pa x clk p) i (nI w)) : BE n (p + 1) (upd pw p (nI w)) (upd pi p i) (upd pa p clk) := by
  intro m x hx
  by_cases c : m < clk
  · have e : (fun x => liesF (upd pw p (nI w)) (upd pi p i) (upd pa p clk) x m (p + 1)) = fun x => liesF pw pi pa x m p := by
      funext x
      exact lies_early c
    rw [e]
    exact E m x hx
  · have late : (fun x => liesF pw pi pa x m p) = fun x => liesF pw pi pa x clk p := by
      funext x
      exact lies_late c p (fun k hk => (B.2.2.1 k hk).2)
    have hP : ∀ y, ¬ y = nI w → liesF (upd pw p (nI w)) (upd pi p i) (upd pa p clk) y m (p + 1) = liesF pw pi pa y clk p := by
      intro y hy
      rw [lies_new, if_neg (fun z => hy z.symm), lies_late c p (fun k hk => (B.2.2.1 k hk).2)]
    have hv : liesF (upd pw p (nI w)) (upd pi p i) (upd pa p clk) (nI w) m (p + 1) = i := by
      rw [lies_new, if_pos rfl, if_neg c]
    obtain ⟨k, hk⟩ := BE_in E hi clk
    have hE := ends_same (P := fun x => liesF pw pi pa x clk p) (P' := fun x => liesF (upd pw p (nI w)) (upd pi p i) (upd pa p clk) x m (p + 1)) (a := nI w) hP k i hk hA
    obtain ⟨k2, hk2⟩ := E clk x hx
    exact ends_upd (P := fun x => liesF pw pi pa x clk p) (a := nI w) hP (by
      show Ends _ (liesF (upd pw p (nI w)) (upd pi p i) (upd pa p clk) (nI w) m (p + 1))
      rw [hv]
      exact hE) k2 _ hk2
/-- the way up from each word, to t: the reference's walk ends -/
theorem ex_up (E : BE n p pw pi pa) {t : Int32} (ht : ¬ t < 0) (m : Int32) : ∃ isO : Nat → Bool, ∀ w, w < n → (∃ N, upF (fun x => liesF pw pi pa x m p) t N (nI w) = some (isO w)) ∧ (isO w = true ↔ Anc (fun x => liesF pw pi pa x m p) (nI w) t) := by
  have h : ∀ w, ∃ b : Bool, w < n → (∃ N, upF (fun x => liesF pw pi pa x m p) t N (nI w) = some b) ∧ (b = true ↔ Anc (fun x => liesF pw pi pa x m p) (nI w) t) := by
    intro w
    by_cases c : w < n
    · obtain ⟨k, hk⟩ := E m w c
      obtain ⟨N, b, h1, h2⟩ := up_some ht k _ hk
      exact ⟨b, fun _ => ⟨⟨N, h1⟩, h2⟩⟩
    · exact ⟨false, fun z => absurd z c⟩
  exact ⟨fun w => Classical.choose (h w), fun w => Classical.choose_spec (h w)⟩
theorem ex_down (E : BE n p pw pi pa) {i : Int32} (hi : inW n i) (hn : n ≤ 40) (m : Int32) : ∃ isO : Nat → Bool, ∀ w, w < n → (∃ N, upF (fun x => liesF pw pi pa x m p) (nI w) N i = some (isO w)) ∧ (isO w = true ↔ Anc (fun x => liesF pw pi pa x m p) i (nI w)) := by
  have h : ∀ w, ∃ b : Bool, w < n → (∃ N, upF (fun x => liesF pw pi pa x m p) (nI w) N i = some b) ∧ (b = true ↔ Anc (fun x => liesF pw pi pa x m p) i (nI w)) := by
    intro w
    by_cases c : w < n
    · obtain ⟨k, hk⟩ := BE_in E hi m
      obtain ⟨N, b, h1, h2⟩ := up_some (t := nI w) (nI_pos (by omega)) k _ hk
      exact ⟨b, fun _ => ⟨⟨N, h1⟩, h2⟩⟩
    · exact ⟨false, fun z => absurd z c⟩
  exact ⟨fun w => Classical.choose (h w), fun w => Classical.choose_spec (h w)⟩
end BWs
