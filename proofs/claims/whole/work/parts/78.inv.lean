/-! THE INVARIANT: class and reference stand alike -/
/-- what a sale says, as the reference keeps it -/
def vS (σ : am_H) (s k : Nat) : Int32 := match k with
  | 0 => ga σ 69 s
  | 1 => ga σ 70 s
  | 2 => ga σ 71 s
  | 3 => ga σ 72 s
  | 4 => ga σ 73 s
  | 5 => ga σ 74 s
  | 6 => ga σ 75 s
  | 7 => ga σ 44 (ga σ 69 s).toNatClampNeg
  | 8 => ga σ 76 s
  | 9 => ga σ 78 s
  | 10 => ga σ 77 s
  | 11 => ga σ 79 s
  | 12 => ga σ 80 s
  | _ => 0
/-- the cells above am_top are those of the start -/
def HI (σ : am_H) (L : Nat) (xs : Nat → Int32) : Prop := ∀ a, am_top ≤ a → am_get σ a = am_x L xs (a - am_top)
/-- the texts' rows -/
def TXS (σ : am_H) : Prop := ∀ i, i < 40 → ∃ (k : Nat) (tm : Nat → RS), TxtAt σ i k tm ∧ ga σ 61 i = nI k ∧ (∀ j, j < k → (∀ B, gq σ 34 (i * 3 + j) = some B → B < σ.1) ∧ TmR (tm j) (ga σ 62 (3 * i + j)) (ga σ 63 (3 * i + j)) (ga σ 64 (3 * i + j)) (ga σ 65 (3 * i + j)) (ga σ 66 (3 * i + j)) (ga σ 67 (3 * i + j)) (gL σ 68 (3 * i + j)))
/-- the sales' rows -/
def SLS (σ : am_H) (np ns : Nat) : Prop := ns ≤ 60 ∧ ∃ A : Nat → Nat, SalAt σ ns A (vS σ) ∧ (∀ s, s < ns → A s < σ.1) ∧ (∀ a b, a < ns → b < ns → A a = A b → a = b) ∧ ∀ s, s < ns → (∃ q, q < np ∧ ga σ 69 s = nI q) ∧ (ga σ 74 s = -1 ∨ ¬ ga σ 74 s < 0) ∧ (ga σ 80 s = -1 ∨ ¬ ga σ 80 s < 0) ∧ (ga σ 79 s = 0 ∨ ga σ 79 s = 1) ∧ (∃ a b, a < 2 ^ 30 ∧ b < 2 ^ 30 ∧ ga σ 76 s = nI a ∧ ga σ 77 s = nI b)
