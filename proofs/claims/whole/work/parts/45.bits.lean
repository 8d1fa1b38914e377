/-! BITS of longs and ints -/
def bitL (c : Int64) (j : Nat) : Bool := c.toBitVec.getLsbD j
def bitI (c : Int32) (j : Nat) : Bool := c.toBitVec.getLsbD j
theorem sh64 : ∀ j : Fin 64, ((nI j.1).toInt64 &&& 63).toBitVec.smod 64 = BitVec.ofNat 64 j.1 := by decide +kernel
theorem sh32 : ∀ j : Fin 32, (nI j.1 &&& 31).toBitVec.smod 32 = BitVec.ofNat 32 j.1 := by decide +kernel
theorem bitL_shl {j k : Nat} (hj : j < 64) (hk : k < 64) : bitL ((1 : Int64) <<< ((nI j).toInt64 &&& 63)) k = decide (k = j) := by
  unfold bitL
  rw [Int64.toBitVec_shiftLeft]
  have e := sh64 ⟨j, hj⟩
  show BitVec.getLsbD ((1 : Int64).toBitVec <<< ((nI j).toInt64 &&& 63).toBitVec.smod 64) k = _
  rw [e, BitVec.getLsbD_shiftLeft']
  have e1 : (BitVec.ofNat 64 j).toNat = j := by simp; omega
  have e2 : (1 : Int64).toBitVec = 1#64 := rfl
  rw [e1, e2]
  by_cases h : k = j
  · subst h; simp [hk]
  · by_cases h2 : k < j
    · simp [h, h2]
    · have : ¬ k - j = 0 := by omega
      simp [h, this]
theorem bitI_shl {j k : Nat} (hj : j < 32) (hk : k < 32) : bitI ((1 : Int32) <<< (nI j &&& 31)) k = decide (k = j) := by
  unfold bitI
  rw [Int32.toBitVec_shiftLeft]
  have e := sh32 ⟨j, hj⟩
  show BitVec.getLsbD ((1 : Int32).toBitVec <<< (nI j &&& 31).toBitVec.smod 32) k = _
  rw [e, BitVec.getLsbD_shiftLeft']
  have e1 : (BitVec.ofNat 32 j).toNat = j := by simp; omega
  have e2 : (1 : Int32).toBitVec = 1#32 := rfl
  rw [e1, e2]
  by_cases h : k = j
  · subst h; simp [hk]
  · by_cases h2 : k < j
    · simp [h, h2]
    · have : ¬ k - j = 0 := by omega
      simp [h, this]
theorem and1_L (x : Int64) : x &&& 1 = if bitL x 0 = true then 1 else 0 := by
  apply Int64.toBitVec_inj.mp
  rw [Int64.toBitVec_and]
  show x.toBitVec &&& 1#64 = _
  rw [BitVec.and_one_eq_setWidth_ofBool_getLsbD]
  unfold bitL
  cases x.toBitVec.getLsbD 0 <;> rfl
theorem and1_I (x : Int32) : x &&& 1 = if bitI x 0 = true then 1 else 0 := by
  apply Int32.toBitVec_inj.mp
  rw [Int32.toBitVec_and]
  show x.toBitVec &&& 1#32 = _
  rw [BitVec.and_one_eq_setWidth_ofBool_getLsbD]
  unfold bitI
  cases x.toBitVec.getLsbD 0 <;> rfl
theorem bitL_shr (c : Int64) {j : Nat} (hj : j < 64) : bitL (c >>> ((nI j).toInt64 &&& 63)) 0 = bitL c j := by
  unfold bitL
  rw [Int64.toBitVec_shiftRight]
  have e := sh64 ⟨j, hj⟩
  show BitVec.getLsbD (c.toBitVec.sshiftRight' (((nI j).toInt64 &&& 63).toBitVec.smod 64)) 0 = _
  rw [e, BitVec.getLsbD_sshiftRight']
  have e1 : (BitVec.ofNat 64 j).toNat = j := by simp; omega
  rw [e1]
  simp [hj]
theorem bitI_shr (c : Int32) {j : Nat} (hj : j < 32) : bitI (c >>> (nI j &&& 31)) 0 = bitI c j := by
  unfold bitI
  rw [Int32.toBitVec_shiftRight]
  have e := sh32 ⟨j, hj⟩
  show BitVec.getLsbD (c.toBitVec.sshiftRight' ((nI j &&& 31).toBitVec.smod 32)) 0 = _
  rw [e, BitVec.getLsbD_sshiftRight']
  have e1 : (BitVec.ofNat 32 j).toNat = j := by simp; omega
  rw [e1]
  simp [hj]
theorem shr1_L (c : Int64) {j : Nat} (hj : j < 64) : (c >>> ((nI j).toInt64 &&& 63)) &&& 1 = if bitL c j = true then 1 else 0 := by rw [and1_L, bitL_shr c hj]
theorem shr1_I (c : Int32) {j : Nat} (hj : j < 32) : (c >>> (nI j &&& 31)) &&& 1 = if bitI c j = true then 1 else 0 := by rw [and1_I, bitI_shr c hj]
theorem shr0_L (c : Int64) {j : Nat} (hj : j < 64) : ((c >>> ((nI j).toInt64 &&& 63)) &&& 1 = 0) = (bitL c j = false) := by
  rw [shr1_L c hj]
  cases bitL c j <;> simp
theorem shr1_Lt (c : Int64) {j : Nat} (hj : j < 64) : ((c >>> ((nI j).toInt64 &&& 63)) &&& 1 = 1) = (bitL c j = true) := by
  rw [shr1_L c hj]
  cases bitL c j <;> simp
theorem shr0_I (c : Int32) {j : Nat} (hj : j < 32) : ((c >>> (nI j &&& 31)) &&& 1 = 0) = (bitI c j = false) := by
  rw [shr1_I c hj]
  cases bitI c j <;> simp
theorem shr1_It (c : Int32) {j : Nat} (hj : j < 32) : ((c >>> (nI j &&& 31)) &&& 1 = 1) = (bitI c j = true) := by
  rw [shr1_I c hj]
  cases bitI c j <;> simp
theorem bitL_or (a b : Int64) (j : Nat) : bitL (a ||| b) j = (bitL a j || bitL b j) := by
  unfold bitL
  rw [Int64.toBitVec_or, BitVec.getLsbD_or]
theorem bitL_and (a b : Int64) (j : Nat) : bitL (a &&& b) j = (bitL a j && bitL b j) := by
  unfold bitL
  rw [Int64.toBitVec_and, BitVec.getLsbD_and]
theorem bitL_not (a : Int64) {j : Nat} (hj : j < 64) : bitL (a ^^^ (-1)) j = !bitL a j := by
  unfold bitL
  rw [Int64.toBitVec_xor, BitVec.getLsbD_xor]
  have : (-1 : Int64).toBitVec = BitVec.allOnes 64 := by decide +kernel
  rw [this, BitVec.getLsbD_allOnes]
  simp [hj]
theorem bitI_or (a b : Int32) (j : Nat) : bitI (a ||| b) j = (bitI a j || bitI b j) := by
  unfold bitI
  rw [Int32.toBitVec_or, BitVec.getLsbD_or]
theorem bitL_0 (j : Nat) : bitL 0 j = false := by
  unfold bitL
  have : (0 : Int64).toBitVec = 0#64 := rfl
  rw [this]
  simp
theorem bitI_0 (j : Nat) : bitI 0 j = false := by
  unfold bitI
  have : (0 : Int32).toBitVec = 0#32 := rfl
  rw [this]
  simp
theorem bitL_ext {a b : Int64} (h : ∀ j, j < 64 → bitL a j = bitL b j) : a = b := by
  apply Int64.toBitVec_inj.mp
  apply BitVec.eq_of_getLsbD_eq
  exact fun i hi => h i hi
theorem bitL_z (a : Int64) : (a = 0) ↔ ∀ j, j < 64 → bitL a j = false :=
  ⟨fun h j _ => by rw [h]; exact bitL_0 j, fun h => bitL_ext fun j hj => by rw [h j hj, bitL_0]⟩
theorem bitL_of (c : Int32) {j : Nat} (hj : j < 32) : bitL c.toInt64 j = bitI c j := by
  unfold bitL bitI
  have : c.toInt64.toBitVec = c.toBitVec.signExtend 64 := rfl
  rw [this, BitVec.getLsbD_signExtend]
  simp [hj]
  omega
