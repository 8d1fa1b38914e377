/-! WHAT A PROGRAM CHECKS of each row of the code: its decoding, its links, the room of its calls -/
def am_sorted (ps : Array (Int × Int)) : Bool := (ps.toList.zip (ps.toList.drop 1)).all (fun (a, next) => a.1 < next.1)
def am_wd (n : Nat) (w : Jvm.Cond) : Bool := decide (lw_tbl[n]? = some w) && goodWord w
def am_tc (ty : FieldType) : Nat := match ty with
  | .int => 0
  | .long => 1
  | .boolean => 2
  | .object _ => 3
  | .array _ => 3
  | _ => 9
/-- a field's link: own class's, or a nest mate's -/
def am_ckF (own : String) (x : Nat) (K : am_K) : Bool :=
  if K.1 = am_NS then
    (K.2.2.2.1 == 0) && ((K.2.1 == 0 && am_wd K.2.2.1 (.fieldLink own x "java/lang/String" "value" "[B")) || (K.2.1 == 1 && am_wd K.2.2.1 (.fieldLink own x "java/lang/String" "coder" "B")))
  else match am_cls[K.1]? with
    | none => false
    | some r => decide (K.2.1 < r.2.2) && decide ((r.2.1 K.2.1).1 = r.1) &&
      (if K.2.2.2.1 = 0 then am_wd K.2.2.1 (.fieldLink own x r.1 (r.2.1 K.2.1).2.1 (r.2.1 K.2.1).2.2.1)
       else decide (am_nest[K.2.2.1]? = some (.fieldLinkNest own x r.1 (r.2.1 K.2.1).2.1 (r.2.1 K.2.1).2.2.1 "PictureAgency")))
def am_ckP (own : String) (init : Bool) (K : am_K) : Bool := match am_cls[K.1]? with
  | none => false
  | some r => (if (r.2.1 K.2.1).2.2.2 = true then init && decide (r.1 = own) && K.2.2.2.1 == 0 else true) &&
    (match parseFieldDescriptor (r.2.1 K.2.1).2.2.1 with | some ty => am_tc ty == K.2.2.2.2.1 | none => false)
/-- what a method needs that is called: kind 0 virtual, 1 static, 3 a constructor; 2 is never called -/
def am_ckW (M : am_M) : Bool :=
  if M.2.2.2.2.2.2.2.1 = 2 then true else
  am_wd M.2.2.2.2.2.2.2.2.1 (.code M.1 M.2.1 M.2.2.1 M.2.2.2.1) && am_wd M.2.2.2.2.2.2.2.2.2.2.2 (.initialized M.1.cls) &&
  plainName M.1.cls && decide (M.1.cls ≠ "java/lang/invoke/MethodHandle") && decide (M.1.cls ≠ "java/lang/invoke/VarHandle") &&
  (if M.2.2.2.2.2.2.2.1 = 1 then am_wd M.2.2.2.2.2.2.2.2.2.1 (.static M.1)
   else am_wd M.2.2.2.2.2.2.2.2.2.1 (.instanceMethod M.1) && (if M.2.2.2.2.2.2.2.1 = 0 then am_wd M.2.2.2.2.2.2.2.2.2.2.1 (.selects M.1.cls M.1 M.1) else decide (M.1.name = "<init>") && decide (M.2.2.2.1 = none)))
/-- what every call needs of its callee -/
def am_ckC (own : String) (nf nl : Nat) (x : Nat) (K : am_K) (M : am_M) : Bool :=
  decide (M.2.2.2.2.2.1 + 1 ≤ nf) && decide (8 + (M.2.2.1 + 11) + M.2.2.2.2.2.2.1 ≤ nl) &&
  (match parseMethodDescriptor M.1.desc with | some d => d.parameters.length == K.2.1 | none => false) &&
  (if K.2.2.2.1 = 0 then am_wd K.2.2.1 (.methodLink own x M.1) else decide (am_nest[K.2.2.1]? = some (.methodLinkNest own x M.1 "PictureAgency")))
/-- a call of Math: K is (which, static's word, link's word, initialized's word, code's word, _) -/
def am_ckN (own : String) (nf nl : Nat) (x : Nat) (K : am_K) (y : MethodName) (b : ByteArray) (n : Nat) : Bool :=
  decide (1 ≤ nf) && decide (21 ≤ nl) && am_wd K.2.2.1 (.methodLink own x y) && am_wd K.2.1 (.static y) && am_wd K.2.2.2.1 (.initialized "java/lang/Math") && am_wd K.2.2.2.2.1 (.code y b n (some .int))
def am_ckI (ms : List am_M) (own : String) (init : Bool) (nf nl pc : Nat) (i : Instr) (K : am_K) : Bool := match i with
  | .goto o => decide ((pc : Int) + o = (K.1 : Int))
  | .ifCond _ o => decide ((pc : Int) + o = (K.1 : Int))
  | .if_icmp _ o => decide ((pc : Int) + o = (K.1 : Int))
  | .ifnull o => decide ((pc : Int) + o = (K.1 : Int))
  | .ifnonnull o => decide ((pc : Int) + o = (K.1 : Int))
  | .ldc x => if K.2.2.2.1 = 1 then (match am_strs[K.1]? with | some q => decide (q.1 = own) && decide (q.2.1 = x) && decide (K.2.2.2.2.2 = .ref (am_top + 1 + K.1)) | none => false)
    else (match K.2.2.2.2.2 with | .int v => am_wd K.2.2.1 (.constant own x v) | _ => false)
  | .ldc_w x => (match K.2.2.2.2.2 with | .int v => am_wd K.2.2.1 (.constant own x v) | _ => false)
  | .ldc2_w x => (match K.2.2.2.2.2 with | .long v => am_wd K.2.2.1 (.constantLong own x v) | _ => false)
  | .getstatic x => (match K.2.2.2.2.2 with
    | .int v => v == 1 && am_wd K.2.2.1 (.fieldLink own x "java/lang/String" "COMPACT_STRINGS" "Z")
    | .retAddr _ => am_wd K.2.2.1 (.fieldLink own x "jdk/internal/util/Preconditions" "SIOOBE_FORMATTER" "Ljava/util/function/BiFunction;")
    | _ => false)
  | .getfield x => am_ckF own x K
  | .putfield x => decide (K.1 < am_NS) && am_ckF own x K && am_ckP own init K
  | .new x => (match am_cls[K.1]?, am_cw[K.1]? with
    | some r, some q => am_wd K.2.2.1 (.classLink own x r.1) && am_wd q.1 (.instantiable r.1 r.2.2) && am_wd q.2 (.initialized r.1)
    | _, _ => false)
  | .newarray t => am_wd K.2.2.1 (.arrayClass (newarray.typeOf t))
  | .anewarray x => (match am_cls[K.1]? with | some r => am_wd K.2.2.1 (.classLink own x r.1) && decide (r.1 ∈ am_aos) | none => false)
  | .invokestatic x => if 99990 < K.1 then
      (if K.1 = 99991 then am_ckN own nf nl x K Lib.Math.abs.name Lib.Math.abs.code 1 else if K.1 = 99992 then am_ckN own nf nl x K Lib.Math.max.name Lib.Math.max.code 2 else if K.1 = 99993 then am_ckN own nf nl x K Lib.Math.min.name Lib.Math.min.code 2 else false)
    else (match ms[K.1]? with
    | none => true
    | some M => am_ckC own nf nl x K M && M.2.2.2.2.2.2.2.1 == 1)
  | .invokevirtual x => (match ms[K.1]? with
    | none => true
    | some M => am_ckC own nf nl x K M && M.2.2.2.2.2.2.2.1 == 0 &&
      (if K.2.2.2.2.1 = am_NS then decide (M.1.cls = "java/lang/String") else (match am_cls[K.2.2.2.2.1]? with | some r => decide (M.1.cls = r.1) | none => false)))
  | .invokespecial x => if K.1 = 99999 then decide (1 ≤ nf) && decide (20 ≤ nl) && am_wd K.2.2.1 (.methodLink own x Lib.objectInit) && am_wd am_w0.1 (.instanceMethod Lib.objectInit) && am_wd am_w0.2 (.code Lib.objectInit ⟨#[0xb1]⟩ 1 none)
    else (match ms[K.1]? with
    | none => true
    | some M => am_ckC own nf nl x K M && M.2.2.2.2.2.2.2.1 == 3)
  | _ => true
def am_ckE (ms : List am_M) (M : am_M) (e : am_E) : Bool :=
  (match decode M.2.1 e.1 with | .ok q => decide (q = (e.2.1, e.2.2.1)) | .error _ => false) &&
  (match e.2.1 with
    | .tableswitch _ _ _ _ => true
    | .lookupswitch _ ps => am_sorted ps
    | i => e.2.2.1 == am_len i && am_ckI ms M.1.cls (decide (M.1.name = "<init>")) M.2.2.2.2.2.1 M.2.2.2.2.2.2.1 e.1 i e.2.2.2)
def am_ckM (ms : List am_M) (M : am_M) : Bool := am_ckW M && M.2.2.2.2.1.all (am_ckE ms M)
/-- the words of the classes' fields, by their places -/
theorem am_cls_ws : ∀ (k : Nat) (r : vw_C), am_cls[k]? = some r → ∀ w ∈ u_ws r.1 r.2.1 r.2.2, w ∈ lw_tbl ∧ goodWord w = true := by
  have h : ∀ (ps : List Nat) (ws : List Jvm.Cond), ws = ps.filterMap (fun i => lw_tbl[i]?) → ws.all goodWord = true → ∀ w ∈ ws, w ∈ lw_tbl ∧ goodWord w = true := by
    intro ps ws h1 h2 w hw
    refine ⟨?_, List.all_eq_true.mp h2 w hw⟩
    rw [h1] at hw
    obtain ⟨i, -, hi⟩ := List.mem_filterMap.mp hw
    exact List.mem_of_getElem? hi
  intro k r hk
  match k, hk with
  | 0, hk => cases hk; exact h (am_ca.getD 0 []) _ (by decide +kernel) (by decide +kernel)
  | 1, hk => cases hk; exact h (am_ca.getD 1 []) _ (by decide +kernel) (by decide +kernel)
  | 2, hk => cases hk; exact h (am_ca.getD 2 []) _ (by decide +kernel) (by decide +kernel)
  | 3, hk => cases hk; exact h (am_ca.getD 3 []) _ (by decide +kernel) (by decide +kernel)
  | 4, hk => cases hk; exact h (am_ca.getD 4 []) _ (by decide +kernel) (by decide +kernel)
  | 5, hk => cases hk; exact h (am_ca.getD 5 []) _ (by decide +kernel) (by decide +kernel)
  | 6, hk => cases hk; exact h (am_ca.getD 6 []) _ (by decide +kernel) (by decide +kernel)
  | 7, hk => cases hk; exact h (am_ca.getD 7 []) _ (by decide +kernel) (by decide +kernel)
  | 8, hk => cases hk; exact h (am_ca.getD 8 []) _ (by decide +kernel) (by decide +kernel)
  | 9, hk => cases hk; exact h (am_ca.getD 9 []) _ (by decide +kernel) (by decide +kernel)
  | 10, hk => cases hk; exact h (am_ca.getD 10 []) _ (by decide +kernel) (by decide +kernel)
  | 11, hk => cases hk; exact h (am_ca.getD 11 []) _ (by decide +kernel) (by decide +kernel)
  | k + 12, hk => simp [am_cls] at hk
/-- types and names of the classes' fields -/
theorem am_cls_ty : ∀ (k : Nat) (r : vw_C), am_cls[k]? = some r → ∃ ty : Nat → FieldType, (∀ j, j < r.2.2 → parseFieldDescriptor (r.2.1 j).2.2.1 = some (ty j)) ∧ (∀ a, a < r.2.2 → ∀ b, b < r.2.2 → a ≠ b → (r.2.1 a).2.1 ≠ (r.2.1 b).2.1) ∧ ∃ fs, am_dfl[k]? = some fs ∧ fs.length = r.2.2 ∧ ∀ j, j < r.2.2 → defaultValue (ty j) = vp_V fs j := by
  intro k r hk
  match k, hk with
  | 0, hk => cases hk; exact ⟨tyX0, tyX0_ok, nmX0, _, rfl, rfl, by decide +kernel⟩
  | 1, hk => cases hk; exact ⟨tyX1, tyX1_ok, nmX1, _, rfl, rfl, by decide +kernel⟩
  | 2, hk => cases hk; exact ⟨tyX2, tyX2_ok, nmX2, _, rfl, rfl, by decide +kernel⟩
  | 3, hk => cases hk; exact ⟨tyX3, tyX3_ok, nmX3, _, rfl, rfl, by decide +kernel⟩
  | 4, hk => cases hk; exact ⟨tyX4, tyX4_ok, nmX4, _, rfl, rfl, by decide +kernel⟩
  | 5, hk => cases hk; exact ⟨tyX5, tyX5_ok, nmX5, _, rfl, rfl, by decide +kernel⟩
  | 6, hk => cases hk; exact ⟨tyX6, tyX6_ok, nmX6, _, rfl, rfl, by decide +kernel⟩
  | 7, hk => cases hk; exact ⟨tyX7, tyX7_ok, nmX7, _, rfl, rfl, by decide +kernel⟩
  | 8, hk => cases hk; exact ⟨tyX8, tyX8_ok, nmX8, _, rfl, rfl, by decide +kernel⟩
  | 9, hk => cases hk; exact ⟨tyX9, tyX9_ok, nmX9, _, rfl, rfl, by decide +kernel⟩
  | 10, hk => cases hk; exact ⟨tyX10, tyX10_ok, nmX10, _, rfl, rfl, by decide +kernel⟩
  | 11, hk => cases hk; exact ⟨tyX11, tyX11_ok, nmX11, _, rfl, rfl, by decide +kernel⟩
  | k + 12, hk => simp [am_cls] at hk
theorem am_wd_in {n : Nat} {w : Jvm.Cond} (h : am_wd n w = true) : w ∈ lw_tbl ∧ goodWord w = true := by
  unfold am_wd at h
  simp only [Bool.and_eq_true, decide_eq_true_eq] at h
  exact ⟨List.mem_of_getElem? h.1, h.2⟩
