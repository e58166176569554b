/-! bits of ints and longs -/
theorem e_ius : ∀ k, k < 32 → (((nI k).toUInt32 &&& Int32.toUInt32 31).toBitVec % 32).toNat = k := by decide +kernel
theorem e_lus : ∀ k, k < 64 → (((nI k).toInt64.toUInt64 &&& Int64.toUInt64 63).toBitVec % 64).toNat = k := by decide +kernel
theorem e_shl : ∀ k, k < 32 → ((nI k &&& 31).toBitVec.smod 32).toNat = k := by decide +kernel
theorem e_shlJ : ∀ k, k < 64 → (((nI k).toInt64 &&& 63).toBitVec.smod 64).toNat = k := by decide +kernel
theorem bI_ius (x : Int32) {k : Nat} (hk : k < 32) (j : Nat) : bI (ius x (nI k)) j = bI x (k + j) := by
  unfold bI ius
  show ((x.toUInt32 >>> ((nI k).toUInt32 &&& Int32.toUInt32 31)).toBitVec).getLsbD j = _
  rw [UInt32.toBitVec_shiftRight, BitVec.ushiftRight_eq', BitVec.getLsbD_ushiftRight, e_ius k hk]
  rfl
theorem bJ_lus (x : Int64) {k : Nat} (hk : k < 64) (j : Nat) : bJ (lus x (nI k)) j = bJ x (k + j) := by
  unfold bJ lus
  show ((x.toUInt64 >>> ((nI k).toInt64.toUInt64 &&& Int64.toUInt64 63)).toBitVec).getLsbD j = _
  rw [UInt64.toBitVec_shiftRight, BitVec.ushiftRight_eq', BitVec.getLsbD_ushiftRight, e_lus k hk]
  rfl
theorem bI_shl (x : Int32) {k : Nat} (hk : k < 32) (j : Nat) : bI (x <<< (nI k &&& 31)) j = (decide (j < 32) && !decide (j < k) && bI x (j - k)) := by
  unfold bI
  rw [Int32.toBitVec_shiftLeft, BitVec.shiftLeft_eq', BitVec.getLsbD_shiftLeft, e_shl k hk]
theorem bJ_shl (x : Int64) {k : Nat} (hk : k < 64) (j : Nat) : bJ (x <<< ((nI k).toInt64 &&& 63)) j = (decide (j < 64) && !decide (j < k) && bJ x (j - k)) := by
  unfold bJ
  rw [Int64.toBitVec_shiftLeft, BitVec.shiftLeft_eq', BitVec.getLsbD_shiftLeft, e_shlJ k hk]
theorem bI_nI (n j : Nat) : bI (nI n) j = (decide (j < 32) && n.testBit j) := by
  show (BitVec.ofNat 32 n).getLsbD j = _
  rw [BitVec.getLsbD_ofNat]
theorem bI_1 (j : Nat) : bI (nI 1) j = decide (j = 0) := by
  rw [bI_nI]
  cases j with
  | zero => rfl
  | succ j => simp [Nat.testBit_succ]
theorem bJ_1 (j : Nat) : bJ 1 j = decide (j = 0) := by
  show (1#64).getLsbD j = _
  cases j with
  | zero => rfl
  | succ j => simp
theorem bI_shl1 {k : Nat} (hk : k < 32) (j : Nat) : bI (nI 1 <<< (nI k &&& 31)) j = decide (j = k) := by
  rw [bI_shl _ hk, bI_1]
  by_cases h : j = k
  · subst h
    simp [hk]
  · by_cases h2 : j < k
    · simp [h, h2]
    · have : ¬ j - k = 0 := by omega
      simp [h, this]
theorem bJ_shl1 {k : Nat} (hk : k < 64) (j : Nat) : bJ ((1 : Int64) <<< ((nI k).toInt64 &&& 63)) j = decide (j = k) := by
  rw [bJ_shl _ hk, bJ_1]
  by_cases h : j = k
  · subst h
    simp [hk]
  · by_cases h2 : j < k
    · simp [h, h2]
    · have : ¬ j - k = 0 := by omega
      simp [h, this]
theorem and1_0 (y : Int32) : (y &&& nI 1 = nI 0) = (bI y 0 = false) := by
  apply propext
  constructor
  · intro h
    have := congrArg (fun z => bI z 0) h
    simpa [bI_and, bI_1, bI_0] using this
  · intro h
    apply bI_ext
    intro k _
    rw [bI_and, bI_1, bI_0]
    by_cases hk : k = 0
    · rw [hk, h]
      rfl
    · simp [hk]
theorem and1_0J (y : Int64) : (y &&& 1 = 0) = (bJ y 0 = false) := by
  apply propext
  constructor
  · intro h
    have := congrArg (fun z => bJ z 0) h
    simpa [bJ_and, bJ_1, bJ_0] using this
  · intro h
    apply bJ_ext
    intro k _
    rw [bJ_and, bJ_1, bJ_0]
    by_cases hk : k = 0
    · rw [hk, h]
      rfl
    · simp [hk]
theorem lgc_0 (a b : Int64) : (lg_cmp a b = nI 0) = (a = b) := propext (lg_cmp_eq a b)
theorem bJ_ne0 (x : Int64) : (x = 0) = (∀ k, k < 64 → bJ x k = false) := by
  apply propext
  constructor
  · intro h k _
    rw [h, bJ_0]
  · intro h
    apply bJ_ext
    intro k hk
    rw [h k hk, bJ_0]
theorem bI_ne0 (x : Int32) : (x = nI 0) = (∀ k, k < 32 → bI x k = false) := by
  apply propext
  constructor
  · intro h k _
    rw [h, bI_0]
  · intro h
    apply bI_ext
    intro k hk
    rw [h k hk, bI_0]
theorem x_hasBit (x : Int32) {k : Nat} (hk : k < 32) : f_X0_hasBit x (nI k) = some (if bI x k then nI 1 else nI 0) := by
  unfold f_X0_hasBit
  rw [z_jn, z_l0, z_l1]
  by_cases h : bI x k = true
  · have e : ¬ (ius x (nI k) &&& nI 1 = nI 0) := by rw [and1_0, bI_ius x hk, Nat.add_zero, h]; decide
    rw [if_neg e, if_pos h]
    rfl
  · have h' : bI x k = false := by simpa using h
    have e : ius x (nI k) &&& nI 1 = nI 0 := by rw [and1_0, bI_ius x hk, Nat.add_zero, h']
    rw [if_pos e, if_neg h]
    rfl
theorem x_hasLane (x : Int64) {k : Nat} (hk : k < 64) : f_X7_hasLane x (nI k) = some (if bJ x k then nI 1 else nI 0) := by
  unfold f_X7_hasLane
  rw [z_jn, z_l0, z_l1]
  by_cases h : bJ x k = true
  · have e : ¬ (lg_cmp (lus x (nI k) &&& 1) 0 = nI 0) := by rw [lgc_0, and1_0J, bJ_lus x hk, Nat.add_zero, h]; decide
    rw [if_neg e, if_pos h]
    rfl
  · have h' : bJ x k = false := by simpa using h
    have e : lg_cmp (lus x (nI k) &&& 1) 0 = nI 0 := by rw [lgc_0, and1_0J, bJ_lus x hk, Nat.add_zero, h']
    rw [if_pos e, if_neg h]
    rfl
theorem x_hb1 {x : Int32} {k : Nat} (hk : k < 32) (h : bI x k = true) : f_X0_hasBit x (nI k) = some (nI 1) := by rw [x_hasBit x hk, if_pos h]
theorem x_hb0 {x : Int32} {k : Nat} (hk : k < 32) (h : bI x k = false) : f_X0_hasBit x (nI k) = some (nI 0) := by rw [x_hasBit x hk, h]; rfl
theorem x_hl1 {x : Int64} {k : Nat} (hk : k < 64) (h : bJ x k = true) : f_X7_hasLane x (nI k) = some (nI 1) := by rw [x_hasLane x hk, if_pos h]
theorem x_hl0 {x : Int64} {k : Nat} (hk : k < 64) (h : bJ x k = false) : f_X7_hasLane x (nI k) = some (nI 0) := by rw [x_hasLane x hk, h]; rfl
