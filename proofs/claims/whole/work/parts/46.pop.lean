/-! HOW MANY BITS a long has: Long.bitCount -/
theorem andB {i a b c d : Nat} (hb : b < 2 ^ i) (hd : d < 2 ^ i) : (2 ^ i * a + b) &&& (2 ^ i * c + d) = 2 ^ i * (a &&& c) + (b &&& d) := by
  apply Nat.eq_of_testBit_eq
  intro j
  have hbd : b &&& d < 2 ^ i := Nat.and_lt_two_pow b hd
  rw [Nat.testBit_and, Nat.testBit_two_pow_mul_add _ hb, Nat.testBit_two_pow_mul_add _ hd, Nat.testBit_two_pow_mul_add _ hbd]
  by_cases h : j < i <;> simp [h, Nat.testBit_and]
theorem and8 {a b c d : Nat} (hb : b < 256) (hd : d < 256) : (256 * a + b) &&& (256 * c + d) = 256 * (a &&& c) + (b &&& d) := andB (i := 8) hb hd
def mk8 (d : Nat) : Nat → Nat
  | 0 => 0
  | k + 1 => 256 * mk8 d k + d
def ch8 (f : Nat → Nat) : Nat → Nat → Nat
  | 0, _ => 0
  | k + 1, x => 256 * ch8 f k (x / 256) + f (x % 256)
def p1 (b : Nat) : Nat := b - ((b / 2) &&& 85)
def p2 (b : Nat) : Nat := (p1 b &&& 51) + ((p1 b / 4) &&& 51)
def p3 (b : Nat) : Nat := (p2 b + p2 b / 16) &&& 15
theorem q1 : ∀ b : Fin 256, ∀ r : Fin 2, ((128 * r.1 + b.1 / 2) &&& 85 = (b.1 / 2) &&& 85) ∧ ((b.1 / 2) &&& 85) ≤ b.1 ∧ p1 b.1 < 256 := by decide +kernel
theorem q2 : ∀ b : Fin 256, ∀ r : Fin 4, ((64 * r.1 + b.1 / 4) &&& 51 = (b.1 / 4) &&& 51) ∧ (b.1 &&& 51) + ((b.1 / 4) &&& 51) < 256 := by decide +kernel
theorem q3 : ∀ b : Fin 256, p2 b.1 ≤ 68 ∧ p2 b.1 % 16 ≤ 4 ∧ p3 b.1 ≤ 8 := by decide +kernel
theorem q4 : ∀ b : Fin 69, ∀ r : Fin 5, (b.1 + 16 * r.1 + b.1 / 16) &&& 15 = (b.1 + b.1 / 16) &&& 15 := by decide +kernel
theorem and0 (n : Nat) : n &&& 0 = 0 := Nat.and_zero n
theorem ch8_lt {f : Nat → Nat} (hf : ∀ b, b < 256 → f b < 256) : ∀ k x, ch8 f k x < 256 ^ k := by
  intro k
  induction k with
  | zero => intro x; simp [ch8]
  | succ k ih =>
    intro x
    have h1 := ih (x / 256)
    have h2 := hf (x % 256) (Nat.mod_lt _ (by decide))
    simp only [ch8, Nat.pow_succ]
    omega
theorem st1 : ∀ k x, x < 256 ^ k → x - ((x / 2) &&& mk8 85 k) = ch8 p1 k x ∧ ((x / 2) &&& mk8 85 k) ≤ x := by
  intro k
  induction k with
  | zero => intro x hx; simp [mk8, ch8]; simp at hx; exact hx
  | succ k ih =>
    intro x hx
    have hx' : x / 256 < 256 ^ k := by rw [Nat.pow_succ] at hx; omega
    have ih := ih (x / 256) hx'
    have hb : x % 256 < 256 := Nat.mod_lt _ (by decide)
    have hq := q1 ⟨x % 256, hb⟩ ⟨(x / 256) % 2, Nat.mod_lt _ (by decide)⟩
    simp only at hq
    have e : x / 2 = 256 * (x / 256 / 2) + (128 * (x / 256 % 2) + x % 256 / 2) := by omega
    rw [e, mk8, and8 (by omega) (by decide), hq.1]
    have hp : p1 (x % 256) = x % 256 - (x % 256 / 2 &&& 85) := rfl
    simp only [ch8, hp]
    have h1 := ih.1
    have h2 := ih.2
    have h3 := hq.2.1
    omega
theorem st2 (f : Nat → Nat) (hf : ∀ b, b < 256 → f b < 256) : ∀ k x, (ch8 f k x &&& mk8 51 k) + ((ch8 f k x / 4) &&& mk8 51 k) = ch8 (fun b => (f b &&& 51) + ((f b / 4) &&& 51)) k x := by
  intro k
  induction k with
  | zero => intro x; simp [mk8, ch8]
  | succ k ih =>
    intro x
    have ih := ih (x / 256)
    have hb : f (x % 256) < 256 := hf _ (Nat.mod_lt _ (by decide))
    have hq := q2 ⟨f (x % 256), hb⟩ ⟨ch8 f k (x / 256) % 4, Nat.mod_lt _ (by decide)⟩
    simp only at hq
    have e : (256 * ch8 f k (x / 256) + f (x % 256)) / 4 = 256 * (ch8 f k (x / 256) / 4) + (64 * (ch8 f k (x / 256) % 4) + f (x % 256) / 4) := by omega
    simp only [ch8, mk8]
    rw [e, and8 hb (by decide), and8 (by omega) (by decide), hq.1, ← ih]
    omega
theorem ch8_p2_mod : ∀ k x, ch8 p2 k x % 16 ≤ 4 := by
  intro k
  cases k with
  | zero => intro x; simp [ch8]
  | succ k =>
    intro x
    have hq := q3 ⟨x % 256, Nat.mod_lt _ (by decide)⟩
    simp only at hq
    simp only [ch8]
    omega
theorem st3 : ∀ k x, (ch8 p2 k x + ch8 p2 k x / 16) &&& mk8 15 k = ch8 p3 k x := by
  intro k
  induction k with
  | zero => intro x; simp [mk8, ch8]
  | succ k ih =>
    intro x
    have ih := ih (x / 256)
    have hq := q3 ⟨x % 256, Nat.mod_lt _ (by decide)⟩
    simp only at hq
    have hm := ch8_p2_mod k (x / 256)
    have h4 := q4 ⟨p2 (x % 256), by omega⟩ ⟨ch8 p2 k (x / 256) % 16, by omega⟩
    simp only at h4
    have e : 256 * ch8 p2 k (x / 256) + p2 (x % 256) + (256 * ch8 p2 k (x / 256) + p2 (x % 256)) / 16 = 256 * (ch8 p2 k (x / 256) + ch8 p2 k (x / 256) / 16) + (p2 (x % 256) + 16 * (ch8 p2 k (x / 256) % 16) + p2 (x % 256) / 16) := by omega
    simp only [ch8, mk8]
    rw [e, and8 (by omega) (by decide), h4, ih]
    rfl
def sum8 (f : Nat → Nat) : Nat → Nat → Nat
  | 0, _ => 0
  | k + 1, x => sum8 f k (x / 256) + f (x % 256)
theorem dg2 {z B C d e : Nat} (hz : z = 256 * B + d) (hB : B = 256 * C + e) (hd : d < 256) (he : e < 256) : z / 65536 = C ∧ z = 65536 * C + (256 * e + d) := by omega
theorem ub8 {A B e c : Nat} (h : A = 256 * B + e) (hB : B ≤ c) (he : e ≤ 8) : A ≤ 256 * c + 8 := by omega
theorem fold8 {e0 e1 e2 e3 e4 e5 e6 e7 A1 A2 A3 A4 A5 A6 A7 y : Nat} (h0 : e0 ≤ 8) (h1 : e1 ≤ 8) (h2 : e2 ≤ 8) (h3 : e3 ≤ 8) (h4 : e4 ≤ 8) (h5 : e5 ≤ 8) (h6 : e6 ≤ 8) (h7 : e7 ≤ 8) (k7 : A7 = 256 * 0 + e7) (k6 : A6 = 256 * A7 + e6) (k5 : A5 = 256 * A6 + e5) (k4 : A4 = 256 * A5 + e4) (k3 : A3 = 256 * A4 + e3) (k2 : A2 = 256 * A3 + e2) (k1 : A1 = 256 * A2 + e1) (hy : y = 256 * A1 + e0) :
    y < 2 ^ 64 ∧ y + y / 256 < 2 ^ 64 ∧ (y + y / 256) + (y + y / 256) / 65536 < 2 ^ 64 ∧ ((y + y / 256) + (y + y / 256) / 65536) + ((y + y / 256) + (y + y / 256) / 65536) / 4294967296 < 2 ^ 64 ∧ (((y + y / 256) + (y + y / 256) / 65536) + ((y + y / 256) + (y + y / 256) / 65536) / 4294967296) % 128 = e0 + e1 + e2 + e3 + e4 + e5 + e6 + e7 := by
  have b7 : A7 ≤ 8 := by omega
  have b6 := ub8 k6 b7 h6
  have b5 := ub8 k5 b6 h5
  have b4 := ub8 k4 b5 h4
  have b3 := ub8 k3 b4 h3
  have b2 := ub8 k2 b3 h2
  have b1 := ub8 k1 b2 h1
  have b0 := ub8 hy b1 h0
  simp only [Nat.reduceMul, Nat.reduceAdd] at b6 b5 b4 b3 b2 b1 b0
  have d1 : y / 256 = A1 := by clear k1 k2 k3 k4 k5 k6 k7 b0 b1 b2 b3 b4 b5 b6 b7; omega
  rw [d1]
  obtain ⟨z, hz⟩ : ∃ z, z = y + A1 := ⟨_, rfl⟩
  rw [← hz]
  have z1 : z = 256 * (A1 + A2) + (e0 + e1) := by clear k2 k3 k4 k5 k6 k7 b0 b1 b2 b3 b4 b5 b6 b7; omega
  have z2 : A1 + A2 = 256 * (A2 + A3) + (e1 + e2) := by clear k3 k4 k5 k6 k7 b0 b1 b2 b3 b4 b5 b6 b7; omega
  have z3 := dg2 z1 z2 (by clear k1 k2 k3 k4 k5 k6 k7 b0 b1 b2 b3 b4 b5 b6 b7; omega) (by clear k1 k2 k3 k4 k5 k6 k7 b0 b1 b2 b3 b4 b5 b6 b7; omega)
  have zb : z < 2 ^ 63 := by clear k1 k2 k3 k4 k5 k6 k7 z1 z2 z3; omega
  rw [z3.1]
  have c23 : A2 + A3 < 2 ^ 62 := by clear k1 k2 k3 k4 k5 k6 k7 z1 z2 z3 hz d1 hy; omega
  obtain ⟨w, hw⟩ : ∃ w, w = z + (A2 + A3) := ⟨_, rfl⟩
  rw [← hw]
  have v1 : A2 + A3 = 256 * (A3 + A4) + (e2 + e3) := by clear k1 k4 k5 k6 k7 b0 b1 b2 b3 b4 b5 b6 b7 z1 z2 z3; omega
  have v2 : A3 + A4 = 256 * (A4 + A5) + (e3 + e4) := by clear k1 k2 k5 k6 k7 b0 b1 b2 b3 b4 b5 b6 b7 z1 z2 z3; omega
  have w1 : w = 256 * ((A1 + A2) + (A3 + A4)) + (e0 + e1 + e2 + e3) := by clear k1 k2 k3 k4 k5 k6 k7 b0 b1 b2 b3 b4 b5 b6 b7 z3 v2 z2; omega
  have w2 : (A1 + A2) + (A3 + A4) = 256 * ((A2 + A3) + (A4 + A5)) + (e1 + e2 + e3 + e4) := by clear k1 k2 k3 k4 k5 k6 k7 b0 b1 b2 b3 b4 b5 b6 b7 z3 v1 z1 w1; omega
  have w3 := dg2 w1 w2 (by clear k1 k2 k3 k4 k5 k6 k7 b0 b1 b2 b3 b4 b5 b6 b7 z1 z2 z3 v1 v2 w1 w2; omega) (by clear k1 k2 k3 k4 k5 k6 k7 b0 b1 b2 b3 b4 b5 b6 b7 z1 z2 z3 v1 v2 w1 w2; omega)
  have u1 : A4 + A5 = 256 * (A5 + A6) + (e4 + e5) := by clear k1 k2 k3 k6 k7 b0 b1 b2 b3 b4 b5 b6 b7 z1 z2 z3 v1 v2 w1 w2 w3; omega
  have u2 : A5 + A6 = 256 * (A6 + A7) + (e5 + e6) := by clear k1 k2 k3 k4 k7 b0 b1 b2 b3 b4 b5 b6 b7 z1 z2 z3 v1 v2 w1 w2 w3 u1; omega
  have s1 : (A2 + A3) + (A4 + A5) = 256 * ((A3 + A4) + (A5 + A6)) + (e2 + e3 + e4 + e5) := by clear k1 k2 k3 k4 k5 k6 k7 b0 b1 b2 b3 b4 b5 b6 b7 z1 z2 z3 v2 w1 w2 w3 u2; omega
  have s2 : (A3 + A4) + (A5 + A6) = 256 * ((A4 + A5) + (A6 + A7)) + (e3 + e4 + e5 + e6) := by clear k1 k2 k3 k4 k5 k6 k7 b0 b1 b2 b3 b4 b5 b6 b7 z1 z2 z3 v1 w1 w2 w3 u1 s1; omega
  have s3 := dg2 s1 s2 (by clear k1 k2 k3 k4 k5 k6 k7 b0 b1 b2 b3 b4 b5 b6 b7 z1 z2 z3 v1 v2 w1 w2 w3 u1 u2 s1 s2; omega) (by clear k1 k2 k3 k4 k5 k6 k7 b0 b1 b2 b3 b4 b5 b6 b7 z1 z2 z3 v1 v2 w1 w2 w3 u1 u2 s1 s2; omega)
  have q : w / 4294967296 = (A4 + A5) + (A6 + A7) := by
    have : w / 4294967296 = w / 65536 / 65536 := by rw [Nat.div_div_eq_div_mul]
    rw [this, w3.1, s3.1]
  rw [q]
  have r1 : A6 + A7 = 256 * A7 + (e6 + e7) := by clear k1 k2 k3 k4 k5 b0 b1 b2 b3 b4 b5 b6 b7 z1 z2 z3 v1 v2 w1 w2 w3 u1 u2 s1 s2 s3 q; omega
  have c45 : A4 + A5 < 2 ^ 62 := by clear k1 k2 k3 k4 k5 k6 k7 z1 z2 z3 hz d1 hy v1 v2 w1 w2 w3 u1 u2 s1 s2 s3 q r1; omega
  have c67 : A6 + A7 < 2 ^ 60 := by clear k1 k2 k3 k4 k5 k6 k7 z1 z2 z3 hz d1 hy v1 v2 w1 w2 w3 u1 u2 s1 s2 s3 q r1; omega
  have zq : z < 2 ^ 60 + 2 ^ 60 + 2 ^ 60 := by clear k1 k2 k3 k4 k5 k6 k7 z1 z2 z3 v1 v2 w1 w2 w3 u1 u2 s1 s2 s3 q r1 hw; omega
  have c23' : A2 + A3 < 2 ^ 60 := by clear k1 k2 k3 k4 k5 k6 k7 z1 z2 z3 hz d1 hy v1 v2 w1 w2 w3 u1 u2 s1 s2 s3 q r1 hw; omega
  have c45' : A4 + A5 < 2 ^ 60 := by clear k1 k2 k3 k4 k5 k6 k7 z1 z2 z3 hz d1 hy v1 v2 w1 w2 w3 u1 u2 s1 s2 s3 q r1 hw; omega
  clear k1 k2 k3 k4 k5 k6 k7 z1 z2 z3 d1 v1 v2 w2 w3 u2 s1 s2 s3 q
  refine ⟨?_, ?_, ?_, ?_, ?_⟩
  · clear w1 u1 r1; omega
  · clear w1 u1 r1; omega
  · clear w1 u1 r1; omega
  · clear w1 u1 r1; omega
  · clear hw hz hy b0 b1 b2 b3 b4 b5 b6 b7 zq c23' c45' c67 c45 c23 zb
    generalize (A1 + A2) + (A3 + A4) = M at *
    generalize A5 + A6 = N at *
    rw [w1, u1, r1]
    omega
theorem st4 (x : Nat) : ch8 p3 8 x < 2 ^ 64 ∧ ch8 p3 8 x + ch8 p3 8 x / 256 < 2 ^ 64 ∧ (ch8 p3 8 x + ch8 p3 8 x / 256) + (ch8 p3 8 x + ch8 p3 8 x / 256) / 65536 < 2 ^ 64 ∧ ((ch8 p3 8 x + ch8 p3 8 x / 256) + (ch8 p3 8 x + ch8 p3 8 x / 256) / 65536) + ((ch8 p3 8 x + ch8 p3 8 x / 256) + (ch8 p3 8 x + ch8 p3 8 x / 256) / 65536) / 4294967296 < 2 ^ 64 ∧ (((ch8 p3 8 x + ch8 p3 8 x / 256) + (ch8 p3 8 x + ch8 p3 8 x / 256) / 65536) + ((ch8 p3 8 x + ch8 p3 8 x / 256) + (ch8 p3 8 x + ch8 p3 8 x / 256) / 65536) / 4294967296) % 128 = sum8 p3 8 x := by
  have h0 := (q3 ⟨x % 256, Nat.mod_lt _ (by decide)⟩).2.2
  have h1 := (q3 ⟨x / 256 % 256, Nat.mod_lt _ (by decide)⟩).2.2
  have h2 := (q3 ⟨x / 256 / 256 % 256, Nat.mod_lt _ (by decide)⟩).2.2
  have h3 := (q3 ⟨x / 256 / 256 / 256 % 256, Nat.mod_lt _ (by decide)⟩).2.2
  have h4 := (q3 ⟨x / 256 / 256 / 256 / 256 % 256, Nat.mod_lt _ (by decide)⟩).2.2
  have h5 := (q3 ⟨x / 256 / 256 / 256 / 256 / 256 % 256, Nat.mod_lt _ (by decide)⟩).2.2
  have h6 := (q3 ⟨x / 256 / 256 / 256 / 256 / 256 / 256 % 256, Nat.mod_lt _ (by decide)⟩).2.2
  have h7 := (q3 ⟨x / 256 / 256 / 256 / 256 / 256 / 256 / 256 % 256, Nat.mod_lt _ (by decide)⟩).2.2
  have hh := fold8 h0 h1 h2 h3 h4 h5 h6 h7 rfl rfl rfl rfl rfl rfl rfl (show ch8 p3 8 x = _ from rfl)
  have e : sum8 p3 8 x = p3 (x % 256) + p3 (x / 256 % 256) + p3 (x / 256 / 256 % 256) + p3 (x / 256 / 256 / 256 % 256) + p3 (x / 256 / 256 / 256 / 256 % 256) + p3 (x / 256 / 256 / 256 / 256 / 256 % 256) + p3 (x / 256 / 256 / 256 / 256 / 256 / 256 % 256) + p3 (x / 256 / 256 / 256 / 256 / 256 / 256 / 256 % 256) := by
    simp only [sum8]
    omega
  rw [e]
  exact hh
/-- the bits of x among the first n -/
def cntN (x : Nat) : Nat → Nat
  | 0 => 0
  | n + 1 => cntN x n + (if x.testBit n = true then 1 else 0)
theorem p3_cnt : ∀ b : Fin 256, p3 b.1 = cntN b.1 8 := by decide +kernel
theorem cntN_add (x m : Nat) : ∀ n, cntN x (m + n) = cntN x m + cntN (x / 2 ^ m) n := by
  intro n
  induction n with
  | zero => rfl
  | succ n ih =>
    have e : cntN x (m + (n + 1)) = cntN x (m + n) + (if x.testBit (m + n) = true then 1 else 0) := rfl
    rw [e, ih]
    simp only [cntN, Nat.testBit_div_two_pow]
    rw [Nat.add_comm n m, Nat.add_assoc]
theorem cntN_mod (x m : Nat) : ∀ n, n ≤ m → cntN (x % 2 ^ m) n = cntN x n := by
  intro n
  induction n with
  | zero => intro _; rfl
  | succ n ih =>
    intro h
    simp only [cntN, ih (by omega), Nat.testBit_mod_two_pow]
    simp [show n < m by omega]
theorem sum8_cnt : ∀ k x, sum8 p3 k x = cntN x (8 * k) := by
  intro k
  induction k with
  | zero => intro x; rfl
  | succ k ih =>
    intro x
    have h := p3_cnt ⟨x % 256, Nat.mod_lt _ (by decide)⟩
    simp only at h
    have hm := cntN_mod x 8 8 (Nat.le_refl _)
    have ha := cntN_add x 8 (8 * k)
    simp only [sum8, h, ih]
    have e1 : 8 * (k + 1) = 8 + 8 * k := by omega
    rw [e1, ha]
    have e2 : x / 2 ^ 8 = x / 256 := rfl
    have e3 : x % 2 ^ 8 = x % 256 := rfl
    rw [e2]
    rw [e3] at hm
    omega
def bcL (c : Int64) : Int32 :=
  let sr := fun (x : Int64) (y : Int32) => (x.toUInt64 >>> (y.toInt64.toUInt64 &&& Int64.toUInt64 63)).toInt64
  let x1 := c - (sr c 1 &&& 6148914691236517205)
  let x2 := (x1 &&& 3689348814741910323) + (sr x1 2 &&& 3689348814741910323)
  let x3 := (x2 + sr x2 4) &&& 1085102592571150095
  let x4 := x3 + sr x3 8
  let x5 := x4 + sr x4 16
  let x6 := x5 + sr x5 32
  x6.toInt32 &&& 127
abbrev tN (x : Int64) : Nat := x.toBitVec.toNat
theorem tN_sub {x y : Int64} (h : tN y ≤ tN x) : tN (x - y) = tN x - tN y := by
  show (x.toBitVec - y.toBitVec).toNat = _
  rw [BitVec.toNat_sub]
  have := x.toBitVec.isLt
  have := y.toBitVec.isLt
  unfold tN at *
  omega
theorem tN_add {x y : Int64} (h : tN x + tN y < 2 ^ 64) : tN (x + y) = tN x + tN y := by
  show (x.toBitVec + y.toBitVec).toNat = _
  rw [BitVec.toNat_add]
  exact Nat.mod_eq_of_lt h
theorem tN_and (x y : Int64) : tN (x &&& y) = tN x &&& tN y := by
  show (x.toBitVec &&& y.toBitVec).toNat = _
  rw [BitVec.toNat_and]
theorem tN_sr (x : Int64) {y : Int32} {k : Nat} (h : ((y.toInt64.toUInt64 &&& Int64.toUInt64 63).toBitVec % 64#64).toNat = k) : tN (x.toUInt64 >>> (y.toInt64.toUInt64 &&& Int64.toUInt64 63)).toInt64 = tN x / 2 ^ k := by
  show (x.toBitVec >>> ((y.toInt64.toUInt64 &&& Int64.toUInt64 63).toBitVec % 64#64)).toNat = _
  rw [BitVec.ushiftRight_eq', BitVec.toNat_ushiftRight, h, Nat.shiftRight_eq_div_pow]
theorem tN_lt (x : Int64) : tN x < 2 ^ 64 := x.toBitVec.isLt
theorem bcL_eq (c : Int64) : bcL c = nI (cntN (tN c) 64) := by
  have hx := tN_lt c
  unfold bcL

  extract_lets sr x1 x2 x3 x4 x5 x6
  have m1 : tN 6148914691236517205 = mk8 85 8 := by decide +kernel
  have m2 : tN 3689348814741910323 = mk8 51 8 := by decide +kernel
  have m3 : tN 1085102592571150095 = mk8 15 8 := by decide +kernel
  have s1 : ∀ x, tN (sr x 1) = tN x / 2 := fun x => tN_sr (k := 1) x (by decide +kernel)
  have s2 : ∀ x, tN (sr x 2) = tN x / 4 := fun x => tN_sr (k := 2) x (by decide +kernel)
  have s4 : ∀ x, tN (sr x 4) = tN x / 16 := fun x => tN_sr (k := 4) x (by decide +kernel)
  have s8 : ∀ x, tN (sr x 8) = tN x / 256 := fun x => tN_sr (k := 8) x (by decide +kernel)
  have s16 : ∀ x, tN (sr x 16) = tN x / 65536 := fun x => tN_sr (k := 16) x (by decide +kernel)
  have s32 : ∀ x, tN (sr x 32) = tN x / 4294967296 := fun x => tN_sr (k := 32) x (by decide +kernel)
  have hx8 : tN c < 256 ^ 8 := hx
  have t1 := st1 8 (tN c) hx8
  have e1 : tN x1 = ch8 p1 8 (tN c) := by
    show tN (c - (sr c 1 &&& 6148914691236517205)) = _
    rw [tN_sub, tN_and, s1, m1]
    · exact t1.1
    · rw [tN_and, s1, m1]
      exact t1.2
  have f1 : ∀ b, b < 256 → p1 b < 256 := fun b hb => (q1 ⟨b, hb⟩ 0).2.2
  have f2 : ∀ b, b < 256 → p2 b < 256 := fun b hb => by have := (q3 ⟨b, hb⟩).1; simp only at this; omega
  have f3 : ∀ b, b < 256 → p3 b < 256 := fun b hb => by have := (q3 ⟨b, hb⟩).2.2; simp only at this; omega
  have t2 := st2 p1 f1 8 (tN c)
  have d2 : ch8 (fun b => (p1 b &&& 51) + ((p1 b / 4) &&& 51)) 8 (tN c) = ch8 p2 8 (tN c) := rfl
  rw [d2] at t2
  have l2 : ch8 p2 8 (tN c) < 256 ^ 8 := ch8_lt f2 8 _
  have e2 : tN x2 = ch8 p2 8 (tN c) := by
    show tN ((x1 &&& 3689348814741910323) + (sr x1 2 &&& 3689348814741910323)) = _
    have h : tN (x1 &&& 3689348814741910323) + tN (sr x1 2 &&& 3689348814741910323) = ch8 p2 8 (tN c) := by
      rw [tN_and, tN_and, s2, m2, e1]
      exact t2
    rw [tN_add (by rw [h]; exact l2), h]
  have t3 := st3 8 (tN c)
  have b68 : ch8 p2 8 (tN c) + ch8 p2 8 (tN c) / 16 < 2 ^ 64 := by
    have : ∀ k x, ch8 p2 k x ≤ mk8 68 k := by
      intro k
      induction k with
      | zero => intro x; exact Nat.le_refl _
      | succ k ih =>
        intro x
        have := ih (x / 256)
        have hq := (q3 ⟨x % 256, Nat.mod_lt _ (by decide)⟩).1
        simp only at hq
        simp only [ch8, mk8]
        omega
    have := this 8 (tN c)
    have e : mk8 68 8 = 4919131752989213764 := by decide +kernel
    omega
  have e3 : tN x3 = ch8 p3 8 (tN c) := by
    show tN ((x2 + sr x2 4) &&& 1085102592571150095) = _
    rw [tN_and, tN_add (by rw [s4, e2]; exact b68), s4, m3, e2]
    exact t3
  obtain ⟨u0, u1, u2, u3, u4⟩ := st4 (tN c)
  rw [← e3] at u0 u1 u2 u3 u4
  have e4 : tN x4 = tN x3 + tN x3 / 256 := by
    show tN (x3 + sr x3 8) = _
    rw [tN_add (by rw [s8]; exact u1), s8]
  rw [← e4] at u2 u3 u4
  have e5 : tN x5 = tN x4 + tN x4 / 65536 := by
    show tN (x4 + sr x4 16) = _
    rw [tN_add (by rw [s16]; exact u2), s16]
  rw [← e5] at u3 u4
  have e6 : tN x6 = tN x5 + tN x5 / 4294967296 := by
    show tN (x5 + sr x5 32) = _
    rw [tN_add (by rw [s32]; exact u3), s32]
  rw [← e6, sum8_cnt] at u4
  show x6.toInt32 &&& 127 = _
  apply Int32.toBitVec_inj.mp
  apply BitVec.eq_of_toNat_eq
  rw [Int32.toBitVec_and, BitVec.toNat_and]
  have a1 : x6.toInt32.toBitVec.toNat = tN x6 % 2 ^ 32 := by
    show (x6.toBitVec.signExtend 32).toNat = _
    rw [BitVec.signExtend_eq_setWidth_of_le _ (by decide), BitVec.toNat_setWidth]
  have a2 : (127 : Int32).toBitVec.toNat = 2 ^ 7 - 1 := by decide
  rw [a1, a2, Nat.and_two_pow_sub_one_eq_mod]
  have a3 : tN x6 % 2 ^ 32 % 2 ^ 7 = tN x6 % 128 := by omega
  rw [a3, u4]
  have le : ∀ x n, cntN x n ≤ n := by
    intro x n
    induction n with
    | zero => exact Nat.le_refl _
    | succ n ih => simp only [cntN]; split <;> omega
  have := le (tN c) 64
  show cntN (tN c) (8 * 8) = (BitVec.ofNat 32 _).toNat
  rw [BitVec.toNat_ofNat, Nat.mod_eq_of_lt]
  omega
theorem cntF_cntN (c : Int64) : ∀ n, cntF (bitL c) n = cntN (tN c) n := by
  intro n
  induction n with
  | zero => rfl
  | succ n ih =>
    simp only [cntF, cntN, ih]
    rfl
section PC
variable {σ : am_H} {Q : Option Value → am_H → Prop}
theorem L_bitCount (c : Int64) : ax k_Long_bitCount 0 [some (.long c), none] [] σ Q = Q (some (.int (nI (cntF (bitL c) 64)))) σ := by
  rw [cntF_cntN, ← bcL_eq]
  simp only [s_Long_bitCount_0, s_Long_bitCount_1, s_Long_bitCount_2, s_Long_bitCount_3, s_Long_bitCount_4, s_Long_bitCount_7, s_Long_bitCount_8, s_Long_bitCount_9, s_Long_bitCount_10, s_Long_bitCount_11, s_Long_bitCount_14, s_Long_bitCount_15, s_Long_bitCount_16, s_Long_bitCount_17, s_Long_bitCount_18, s_Long_bitCount_21, s_Long_bitCount_22, s_Long_bitCount_23, s_Long_bitCount_24, s_Long_bitCount_25, s_Long_bitCount_26, s_Long_bitCount_27, s_Long_bitCount_28, s_Long_bitCount_29, s_Long_bitCount_32, s_Long_bitCount_33, s_Long_bitCount_34, s_Long_bitCount_35, s_Long_bitCount_36, s_Long_bitCount_38, s_Long_bitCount_39, s_Long_bitCount_40, s_Long_bitCount_41, s_Long_bitCount_42, s_Long_bitCount_43, s_Long_bitCount_45, s_Long_bitCount_46, s_Long_bitCount_47, s_Long_bitCount_48, s_Long_bitCount_49, s_Long_bitCount_50, s_Long_bitCount_52, s_Long_bitCount_53, s_Long_bitCount_54, s_Long_bitCount_55, s_Long_bitCount_56, s_Long_bitCount_57, s_Long_bitCount_59, s_Long_bitCount_60, ↓reduceIte, Nat.reduceEqDiff, Nat.reduceLT, am_top, ax_f_some, ax_k_some, ax_k_none, s8_0, s8_1, s8_2, s8_3, s8_4, c2p_n, c2p_i, c2p_r, c2p_z, okvp_i, okvp_l, okvp_r, okvp_n, okvp_z, okvp_z0, okvp_z1, bi_narp, am_nar0p, am_nar1p, bi_0, bi_1, true_and, and_true, bcL]
end PC
