/-! THE PLAIN MACHINE: methods run over a heap of plain cells; what it answers, the machine itself answers (part 05) -/
abbrev am_K : Type := Nat × Nat × Nat × Nat × Nat × Value
abbrev am_L : Type := List (Option Value)
abbrev am_C : Type := (Nat × List Value) ⊕ ((Nat × Nat × (Nat → Int32)) ⊕ ((Nat × (Nat → Int64)) ⊕ (Nat × Nat × (Nat → Option Nat))))
abbrev am_H : Type := Nat × Nat × (Nat → Option am_C)
abbrev am_A : Type := (Nat × am_L × List Value × am_H) ⊕ ((Nat × List Value × List Value) ⊕ (Option Value))
abbrev am_E : Type := Nat × Instr × Nat × am_K
/-- name, bytes, locals, return, code, frames, words of locals, (static, code's word, static's or instance's word, selects' word, initialized's word) -/
abbrev am_M : Type := MethodName × ByteArray × Nat × Option FieldType × List am_E × Nat × Nat × (Nat × Nat × Nat × Nat × Nat)
abbrev am_ob (ci : Nat) (fs : List Value) : am_C := .inl (ci, fs)
abbrev am_ia (k n : Nat) (f : Nat → Int32) : am_C := .inr (.inl (k, n, f))
abbrev am_la (n : Nat) (f : Nat → Int64) : am_C := .inr (.inr (.inl (n, f)))
abbrev am_qa (ci n : Nat) (f : Nat → Option Nat) : am_C := .inr (.inr (.inr (ci, n, f)))
def am_get (σ : am_H) (a : Nat) : Option am_C := σ.2.2 a
def am_set (σ : am_H) (a : Nat) (c : am_C) : am_H := (σ.1, σ.2.1, fun b => if b = a then some c else σ.2.2 b)
def am_new (σ : am_H) (n : Nat) (c : am_C) : am_H := (σ.1 + 1, σ.2.1 + n, fun b => if b = σ.1 then some c else σ.2.2 b)
abbrev am_top : Nat := 1000000
/-- the lengths of instructions -/
def am_len (i : Instr) : Nat := match i with
  | .bipush _ | .iload _ | .lload _ | .aload _ | .istore _ | .lstore _ | .astore _ | .ldc _ | .newarray _ => 2
  | .sipush _ | .iinc _ _ | .ifCond _ _ | .if_icmp _ _ | .ifnull _ | .ifnonnull _ | .goto _ | .ldc_w _ | .ldc2_w _ | .getstatic _ | .getfield _ | .putfield _ | .invokevirtual _ | .invokespecial _ | .invokestatic _ | .new _ | .anewarray _ => 3
  | _ => 1
/-- instructions of the stack alone -/
def am_pure (i : Instr) (st : List Value) : Option (List Value) := match i with
  | .iconst n => some (.int (Int32.ofInt n) :: st)
  | .bipush n => some (.int (Int8.ofInt n).toInt32 :: st)
  | .sipush n => some (.int (Int16.ofInt n).toInt32 :: st)
  | .lconst n => some (.long (Int64.ofNat n.val) :: st)
  | .aconst_null => some (.null :: st)
  | .iadd => match st with | .int y :: .int x :: r => some (.int (x + y) :: r) | _ => none
  | .isub => match st with | .int y :: .int x :: r => some (.int (x - y) :: r) | _ => none
  | .imul => match st with | .int y :: .int x :: r => some (.int (x * y) :: r) | _ => none
  | .iand => match st with | .int y :: .int x :: r => some (.int (x &&& y) :: r) | _ => none
  | .ior => match st with | .int y :: .int x :: r => some (.int (x ||| y) :: r) | _ => none
  | .ixor => match st with | .int y :: .int x :: r => some (.int (x ^^^ y) :: r) | _ => none
  | .idiv => match st with | .int y :: .int x :: r => if y = 0 then none else some (.int (x / y) :: r) | _ => none
  | .irem => match st with | .int y :: .int x :: r => if y = 0 then none else some (.int (x - x / y * y) :: r) | _ => none
  | .ishl => match st with | .int y :: .int x :: r => some (.int (x <<< (y &&& 31)) :: r) | _ => none
  | .ishr => match st with | .int y :: .int x :: r => some (.int (x >>> (y &&& 31)) :: r) | _ => none
  | .iushr => match st with | .int y :: .int x :: r => some (.int (x.toUInt32 >>> (y.toUInt32 &&& Int32.toUInt32 31)).toInt32 :: r) | _ => none
  | .ineg => match st with | .int x :: r => some (.int (-x) :: r) | _ => none
  | .ladd => match st with | .long y :: .long x :: r => some (.long (x + y) :: r) | _ => none
  | .lsub => match st with | .long y :: .long x :: r => some (.long (x - y) :: r) | _ => none
  | .lmul => match st with | .long y :: .long x :: r => some (.long (x * y) :: r) | _ => none
  | .land => match st with | .long y :: .long x :: r => some (.long (x &&& y) :: r) | _ => none
  | .lor => match st with | .long y :: .long x :: r => some (.long (x ||| y) :: r) | _ => none
  | .lxor => match st with | .long y :: .long x :: r => some (.long (x ^^^ y) :: r) | _ => none
  | .ldiv => match st with | .long y :: .long x :: r => if y = 0 then none else some (.long (x / y) :: r) | _ => none
  | .lshl => match st with | .int y :: .long x :: r => some (.long (x <<< (y.toInt64 &&& 63)) :: r) | _ => none
  | .lshr => match st with | .int y :: .long x :: r => some (.long (x >>> (y.toInt64 &&& 63)) :: r) | _ => none
  | .lushr => match st with | .int y :: .long x :: r => some (.long (x.toUInt64 >>> (y.toInt64.toUInt64 &&& Int64.toUInt64 63)).toInt64 :: r) | _ => none
  | .lcmp => match st with | .long y :: .long x :: r => some (.int (lg_cmp x y) :: r) | _ => none
  | .i2l => match st with | .int x :: r => some (.long x.toInt64 :: r) | _ => none
  | .l2i => match st with | .long x :: r => some (.int x.toInt32 :: r) | _ => none
  | .i2c => match st with | .int x :: r => some (.int (x.toUInt32 % 65536).toInt32 :: r) | _ => none
  | .dup => match st with | v :: r => if v.category = 1 then some (v :: v :: r) else none | _ => none
  | .pop => match st with | v :: r => if v.category = 1 then some r else none | _ => none
  | .dup2 => match st with | v :: w :: r => if v.category = 1 ∧ w.category = 1 then some (v :: w :: v :: w :: r) else none | _ => none
  | _ => none
/-- a value of two words ahead of the place is gone -/
def am_clr (ls : am_L) : Nat → am_L
  | 0 => ls
  | k + 1 => match ls[k]? with
    | some (some v) => if v.category = 2 then ls.set k none else ls
    | _ => ls
def am_st1 (ls : am_L) (n : Nat) (v : Value) : am_L := (am_clr ls n).set n (some v)
def am_st2 (ls : am_L) (n : Nat) (v : Value) : am_L := ((am_clr ls n).set n (some v)).set (n + 1) none
def am_ldi (ls : am_L) (st : List Value) (n : Nat) : Option (am_L × List Value) := match ls[n]? with
  | some (some (.int x)) => some (ls, .int x :: st)
  | _ => none
def am_ldl (ls : am_L) (st : List Value) (n : Nat) : Option (am_L × List Value) := match ls[n]? with
  | some (some (.long x)) => some (ls, .long x :: st)
  | _ => none
def am_lda (ls : am_L) (st : List Value) (n : Nat) : Option (am_L × List Value) := match ls[n]? with
  | some (some (.ref x)) => some (ls, .ref x :: st)
  | some (some .null) => some (ls, .null :: st)
  | _ => none
def am_sti (ls : am_L) (st : List Value) (n : Nat) : Option (am_L × List Value) := match st with
  | .int x :: r => if n < ls.length then some (am_st1 ls n (.int x), r) else none
  | _ => none
def am_stl (ls : am_L) (st : List Value) (n : Nat) : Option (am_L × List Value) := match st with
  | .long x :: r => if n + 1 < ls.length then some (am_st2 ls n (.long x), r) else none
  | _ => none
def am_sta (ls : am_L) (st : List Value) (n : Nat) : Option (am_L × List Value) := match st with
  | .ref x :: r => if n < ls.length then some (am_st1 ls n (.ref x), r) else none
  | .null :: r => if n < ls.length then some (am_st1 ls n .null, r) else none
  | _ => none
/-- instructions of the locals -/
def am_loc (i : Instr) (ls : am_L) (st : List Value) : Option (am_L × List Value) := match i with
  | .iload n => am_ldi ls st n
  | .iload_n n => am_ldi ls st n.val
  | .lload n => am_ldl ls st n
  | .lload_n n => am_ldl ls st n.val
  | .aload n => am_lda ls st n
  | .aload_n n => am_lda ls st n.val
  | .istore n => am_sti ls st n
  | .istore_n n => am_sti ls st n.val
  | .lstore n => am_stl ls st n
  | .lstore_n n => am_stl ls st n.val
  | .astore n => am_sta ls st n
  | .astore_n n => am_sta ls st n.val
  | .iinc n d => match ls[n]? with
    | some (some (.int x)) => if n < ls.length then some (am_st1 ls n (.int (x + Int32.ofInt d)), st) else none
    | _ => none
  | _ => none
def am_cb (c : Jvm.ClassFile.Cond) (x y : Int32) : Bool := match c with
  | .eq => decide (x = y)
  | .ne => !decide (x = y)
  | .lt => decide (x < y)
  | .ge => decide (y ≤ x)
  | .gt => decide (y < x)
  | .le => decide (x ≤ y)
def am_to (pc : Nat) (off : Int) (r : List Value) : Option (Nat × List Value) := if 0 ≤ (pc : Int) + off then some (((pc : Int) + off).toNat, r) else none
/-- jumps -/
def am_br (i : Instr) (K : am_K) (pc : Nat) (st : List Value) : Option (Nat × List Value) := match i with
  | .goto _ => some (K.1, st)
  | .ifCond c _ => match st with | .int x :: r => some (if am_cb c x 0 = true then K.1 else pc + 3, r) | _ => none
  | .if_icmp c _ => match st with | .int y :: .int x :: r => some (if am_cb c x y = true then K.1 else pc + 3, r) | _ => none
  | .ifnull _ => match st with | .null :: r => some (K.1, r) | .ref _ :: r => some (pc + 3, r) | _ => none
  | .ifnonnull _ => match st with | .ref _ :: r => some (K.1, r) | .null :: r => some (pc + 3, r) | _ => none
  | .tableswitch d lo hi offs => match st with
    | .int x :: r => if x.toInt < lo ∨ hi < x.toInt then am_to pc d r else match offs[(x.toInt - lo).toNat]? with | some o => am_to pc o r | none => none
    | _ => none
  | .lookupswitch d ps => match st with
    | .int x :: r => am_to pc (Op.lookupswitch.offset ps.toList d x.toInt) r
    | _ => none
  | _ => none
/-- reads and constants -/
def am_rd (i : Instr) (K : am_K) (st : List Value) (σ : am_H) : Option (List Value) := match i with
  | .ldc _ | .ldc_w _ | .ldc2_w _ | .getstatic _ => some (K.2.2.2.2.2 :: st)
  | .getfield _ => match st with
    | .ref a :: r => match am_get σ a with
      | some (.inl (cj, fs)) => if cj = K.1 then (match fs[K.2.1]? with | some v => some (v :: r) | none => none) else none
      | _ => none
    | _ => none
  | .iaload => match st with
    | .int i :: .ref a :: r => match am_get σ a with
      | some (.inr (.inl (k, n, f))) => if k = 0 then (if i < 0 ∨ n ≤ i.toNatClampNeg then none else some (.int (f i.toNatClampNeg) :: r)) else none
      | _ => none
    | _ => none
  | .baload => match st with
    | .int i :: .ref a :: r => match am_get σ a with
      | some (.inr (.inl (k, n, f))) => if k = 1 ∨ k = 2 then (if i < 0 ∨ n ≤ i.toNatClampNeg then none else some (.int (f i.toNatClampNeg) :: r)) else none
      | _ => none
    | _ => none
  | .laload => match st with
    | .int i :: .ref a :: r => match am_get σ a with
      | some (.inr (.inr (.inl (n, f)))) => if i < 0 ∨ n ≤ i.toNatClampNeg then none else some (.long (f i.toNatClampNeg) :: r)
      | _ => none
    | _ => none
  | .aaload => match st with
    | .int i :: .ref a :: r => match am_get σ a with
      | some (.inr (.inr (.inr (_, n, f)))) => if i < 0 ∨ n ≤ i.toNatClampNeg then none else some (va_rf (f i.toNatClampNeg) :: r)
      | _ => none
    | _ => none
  | .arraylength => match st with
    | .ref a :: r => match am_get σ a with
      | some (.inr (.inl (_, n, _))) => some (.int (Int32.ofNat n) :: r)
      | some (.inr (.inr (.inl (n, _)))) => some (.int (Int32.ofNat n) :: r)
      | some (.inr (.inr (.inr (_, n, _)))) => some (.int (Int32.ofNat n) :: r)
      | _ => none
    | _ => none
  | .invokestatic _ =>
    if K.1 = 99991 then (match st with | .int x :: r => if (r.map fun v => v.category).sum ≤ 8 then some (.int (if 0 ≤ x then x else 0 - x) :: r) else none | _ => none)
    else if K.1 = 99992 then (match st with | .int y :: .int x :: r => if (r.map fun v => v.category).sum ≤ 8 then some (.int (if x < y then y else x) :: r) else none | _ => none)
    else if K.1 = 99993 then (match st with | .int y :: .int x :: r => if (r.map fun v => v.category).sum ≤ 8 then some (.int (if y < x then y else x) :: r) else none | _ => none)
    else none
  | .invokespecial _ => if K.1 = 99999 then (match st with | .ref _ :: r => if (r.map fun v => v.category).sum ≤ 8 then some r else none | _ => none) else none
  | _ => none
/-- what a field may hold: 0 int, 1 long, 2 boolean, 3 a reference -/
def am_okv (t : Nat) (v : Value) : Bool := match v with
  | .int x => t == 0 || (t == 2 && (x == 0 || x == 1))
  | .long _ => t == 1
  | .ref _ => t == 3
  | .null => t == 3
  | _ => false
/-- writes and makings -/
def am_wr (dfl : List (List Value)) (i : Instr) (K : am_K) (st : List Value) (σ : am_H) : Option (List Value × am_H) := match i with
  | .putfield _ => match st with
    | v :: .ref a :: r => match am_get σ a with
      | some (.inl (cj, fs)) => if cj = K.1 ∧ a < am_top ∧ K.2.1 < fs.length ∧ am_okv K.2.2.2.2.1 v = true then some (r, am_set σ a (.inl (cj, fs.set K.2.1 v))) else none
      | _ => none
    | _ => none
  | .iastore => match st with
    | .int x :: .int i :: .ref a :: r => match am_get σ a with
      | some (.inr (.inl (k, n, f))) => if k = 0 ∧ a < am_top then (if i < 0 ∨ n ≤ i.toNatClampNeg then none else some (r, am_set σ a (.inr (.inl (0, n, upd f i.toNatClampNeg x))))) else none
      | _ => none
    | _ => none
  | .bastore => match st with
    | .int x :: .int i :: .ref a :: r => match am_get σ a with
      | some (.inr (.inl (k, n, f))) => if k = 1 ∧ a < am_top ∧ (x = 0 ∨ x = 1) then (if i < 0 ∨ n ≤ i.toNatClampNeg then none else some (r, am_set σ a (.inr (.inl (1, n, upd f i.toNatClampNeg x))))) else none
      | _ => none
    | _ => none
  | .lastore => match st with
    | .long x :: .int i :: .ref a :: r => match am_get σ a with
      | some (.inr (.inr (.inl (n, f)))) => if a < am_top then (if i < 0 ∨ n ≤ i.toNatClampNeg then none else some (r, am_set σ a (.inr (.inr (.inl (n, vp_updL f i.toNatClampNeg x)))))) else none
      | _ => none
    | _ => none
  | .aastore => match st with
    | .ref y :: .int i :: .ref a :: r => match am_get σ a, am_get σ y with
      | some (.inr (.inr (.inr (ci, n, f)))), some (.inl (cj, _)) => if cj = ci ∧ a < am_top ∧ y < am_top then (if i < 0 ∨ n ≤ i.toNatClampNeg then none else some (r, am_set σ a (.inr (.inr (.inr (ci, n, va_up f i.toNatClampNeg (some y))))))) else none
      | _, _ => none
    | _ => none
  | .new _ => match dfl[K.1]? with
    | some fs => if σ.1 < am_top then some (.ref σ.1 :: st, am_new σ fs.length (.inl (K.1, fs))) else none
    | none => none
  | .newarray t => match st with
    | .int n :: r => if n < 0 ∨ am_top < n.toNatClampNeg ∨ am_top ≤ σ.1 then none else match t with
      | .int => some (.ref σ.1 :: r, am_new σ n.toNatClampNeg (.inr (.inl (0, n.toNatClampNeg, fun _ => 0))))
      | .boolean => some (.ref σ.1 :: r, am_new σ n.toNatClampNeg (.inr (.inl (1, n.toNatClampNeg, fun _ => 0))))
      | .long => some (.ref σ.1 :: r, am_new σ n.toNatClampNeg (.inr (.inr (.inl (n.toNatClampNeg, fun _ => 0)))))
      | _ => none
    | _ => none
  | .anewarray _ => match st with
    | .int n :: r => if n < 0 ∨ am_top < n.toNatClampNeg ∨ am_top ≤ σ.1 then none else some (.ref σ.1 :: r, am_new σ n.toNatClampNeg (.inr (.inr (.inr (K.1, n.toNatClampNeg, fun _ => none)))))
    | _ => none
  | _ => none
/-- calls: the method, its arguments, the stack below them -/
def am_cl (i : Instr) (K : am_K) (st : List Value) (σ : am_H) : Option (Nat × List Value × List Value) := match i with
  | .invokestatic _ => if K.2.1 ≤ st.length ∧ ((st.drop K.2.1).map fun v => v.category).sum ≤ 8 then some (K.1, (st.take K.2.1).reverse, st.drop K.2.1) else none
  | .invokespecial _ => match st.drop K.2.1 with
    | .ref b :: r => if (r.map fun v => v.category).sum ≤ 8 then some (K.1, .ref b :: (st.take K.2.1).reverse, r) else none
    | _ => none
  | .invokevirtual _ => match st.drop K.2.1 with
    | .ref b :: r => match am_get σ b with
      | some (.inl (cj, _)) => if cj = K.2.2.2.2.1 ∧ (r.map fun v => v.category).sum ≤ 8 then some (K.1, .ref b :: (st.take K.2.1).reverse, r) else none
      | _ => none
    | _ => none
  | _ => none
def am_nar (ty : FieldType) (v : Int32) : Bool := match ty with
  | .int => true
  | .boolean => v == 0 || v == 1
  | .char => decide (0 ≤ v) && decide (v ≤ 65535)
  | .byte => v.toInt8.toInt32 == v
  | _ => false
/-- returns -/
def am_rt (rt : Option FieldType) (i : Instr) (st : List Value) : Option (Option Value) := match i with
  | .ireturn => match rt, st with
    | some ty, [.int v] => if am_nar ty v = true then some (some (.int v)) else none
    | _, _ => none
  | .lreturn => match rt, st with
    | some .long, [.long v] => some (some (.long v))
    | _, _ => none
  | .areturn => match rt, st with
    | some (.object _), [.ref a] => some (some (.ref a))
    | some (.object _), [.null] => some (some .null)
    | _, _ => none
  | .return_ => match rt, st with
    | none, [] => some none
    | _, _ => none
  | _ => none
/-- one step: go on, call, or return -/
def am_stp (dfl : List (List Value)) (rt : Option FieldType) (i : Instr) (K : am_K) (pc : Nat) (ls : am_L) (st : List Value) (σ : am_H) : Option am_A :=
  match am_pure i st with
  | some st' => some (.inl (pc + am_len i, ls, st', σ))
  | none =>
  match am_loc i ls st with
  | some q => some (.inl (pc + am_len i, q.1, q.2, σ))
  | none =>
  match am_br i K pc st with
  | some q => some (.inl (q.1, ls, q.2, σ))
  | none =>
  match am_rd i K st σ with
  | some st' => some (.inl (pc + am_len i, ls, st', σ))
  | none =>
  match am_wr dfl i K st σ with
  | some q => some (.inl (pc + am_len i, ls, q.1, q.2))
  | none =>
  match am_cl i K st σ with
  | some q => some (.inr (.inl q))
  | none => (am_rt rt i st).map (fun r => .inr (.inr r))
def am_at (code : List am_E) (pc : Nat) : Option (Instr × Nat × am_K) := match code with
  | [] => none
  | e :: r => if e.1 == pc then some e.2 else am_at r pc
def am_in (n : Nat) (as : List Value) : am_L :=
  let l := as.flatMap (fun v => if v.category = 2 then [some v, none] else [some v])
  l ++ List.replicate (n - l.length) none
/-- the run of a method from a place on -/
def am_run (dfl : List (List Value)) (ms : List am_M) : Nat → Nat → Nat → am_L → List Value → am_H → Option (Option Value × am_H)
  | 0, _, _, _, _, _ => none
  | f + 1, j, pc, ls, st, σ =>
    match ms[j]? with
    | none => none
    | some M =>
      match am_at M.2.2.2.2.1 pc with
      | none => none
      | some (i, _, K) =>
        match am_stp dfl M.2.2.2.1 i K pc ls st σ with
        | none => none
        | some (.inl (pc', ls', st', σ')) => am_run dfl ms f j pc' ls' st' σ'
        | some (.inr (.inl (j', as, st'))) =>
          match ms[j']? with
          | none => none
          | some M' =>
            if (am_in M'.2.2.1 as).length = M'.2.2.1 then
              match am_run dfl ms f j' 0 (am_in M'.2.2.1 as) [] σ with
              | none => none
              | some (r, σ1) => am_run dfl ms f j (pc + 3) ls (r.toList ++ st') σ1
            else none
        | some (.inr (.inr r)) => some (r, σ)
