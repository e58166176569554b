/-! append -/
theorem bI_sar (x : Int32) {k : Nat} (hk : k < 32) {j : Nat} (h : k + j < 32) : bI (x >>> (nI k &&& 31)) j = bI x (k + j) := by
  unfold bI
  rw [Int32.toBitVec_shiftRight, BitVec.sshiftRight_eq', e_shl k hk, BitVec.getLsbD_sshiftRight]
  have h1 : ¬ 32 ≤ j := by omega
  simp [h1, h]
def byt (x : Int32) (i : Nat) : Int32 := ius x (nI (24 - 8 * i)) &&& nI 255
theorem b255 (j : Nat) (hj : j < 32) : bI (nI 255) j = decide (j < 8) := by
  rw [bI_nI, show (255 : Nat) = 2 ^ 8 - 1 from rfl, Nat.testBit_two_pow_sub_one]
  simp [hj]
theorem byt_sar (x : Int32) {i : Nat} (hi : i < 4) : (x >>> (nI (24 - 8 * i) &&& 31)) &&& nI 255 = byt x i := bI_ext (fun j hj => by
  unfold byt
  rw [bI_and, bI_and, b255 j hj]
  by_cases c : j < 8
  · rw [bI_sar _ (by omega) (by omega), bI_ius _ (by omega)]
  · simp [c])
theorem nI_NI (x : Int32) : nI (NI_ x) = x := by
  apply Int32.toBitVec_inj.mp
  show BitVec.ofNat 32 x.toBitVec.toNat = _
  rw [BitVec.ofNat_toNat, BitVec.setWidth_eq]
theorem byt_lt (x : Int32) (i : Nat) : ∃ b, b < 256 ∧ byt x i = nI b := by
  refine ⟨NI_ (byt x i), ?_, (nI_NI _).symm⟩
  unfold byt
  rw [nI_and, show NI_ (nI 255) = 255 from rfl]
  have := Nat.and_le_right (n := NI_ (ius x (nI (24 - 8 * i)))) (m := 255)
  omega
def sft (i : Nat) : Int32 := if i = 4 then -8 else nI (24 - 8 * i)
theorem sft_s : ∀ i, i < 4 → sft i = nI (24 - 8 * i) ∧ ¬ nI (24 - 8 * i) < 0 ∧ nI (24 - 8 * i) + (-8 : Int32) = sft (i + 1) := by decide +kernel
theorem x_four {v : Vs} {L : Nat} (hL : v.1 1 = nI L) (h8 : L + 4 ≤ 800) (x : Int32) : ∃ v', f_X5_putBytes v x = some v' ∧ v'.1 1 = nI (L + 4) ∧ (∀ j, j ≠ 1 → v'.1 j = v.1 j) ∧ (∀ j, j ≠ 3 → v'.2.1 j = v.2.1 j) ∧ (∀ i, i < 4 → v'.2.1 3 (L + i) = byt x i) ∧ ∀ i, i < L → v'.2.1 3 i = v.2.1 3 i := by
  show Ok (f_X5_putBytes v x) (fun v' => v'.1 1 = nI (L + 4) ∧ (∀ j, j ≠ 1 → v'.1 j = v.1 j) ∧ (∀ j, j ≠ 3 → v'.2.1 j = v.2.1 j) ∧ (∀ i, i < 4 → v'.2.1 3 (L + i) = byt x i) ∧ ∀ i, i < L → v'.2.1 3 i = v.2.1 3 i)
  unfold f_X5_putBytes
  refine zl2 (I := fun m a v' => ∃ i, a = sft i ∧ i ≤ 4 ∧ m = 4 - i ∧ v'.1 1 = nI (L + i) ∧ (∀ j, j ≠ 1 → v'.1 j = v.1 j) ∧ (∀ j, j ≠ 3 → v'.2.1 j = v.2.1 j) ∧ (∀ q, q < i → v'.2.1 3 (L + q) = byt x q) ∧ ∀ q, q < L → v'.2.1 3 q = v.2.1 3 q) ?_ FU 4 _ _ (by unfold FU; omega) ⟨0, rfl, by omega, by omega, hL, fun _ _ => rfl, fun _ _ => rfl, fun q hq => by omega, fun _ _ => rfl⟩
  rintro m a v' self ⟨i, rfl, hle, rfl, c0, c1, c2, c3, c4⟩ ih
  unfold f_X5_putBytes_L3
  rw [z_jn]
  by_cases hb : i = 4
  · subst hb
    rw [if_pos (show sft 4 < 0 by decide)]
    exact ok_some ⟨c0, c1, c2, c3, c4⟩
  · obtain ⟨s1, s2, s3⟩ := sft_s i (by omega)
    rw [s1, if_neg s2, c0, z_l800, iff_ (by omega) (by omega)]
    refine ok_gd (z_inb (by omega) (by omega)) ?_
    refine ok_bn ?_
    refine ok_bn ?_
    rw [z_cl (by omega), z_sI0, c0, s3, z_l1, nI_add, z_l255, show ius x (nI (24 - 8 * i)) &&& nI 255 = byt x i from rfl]
    refine ih _ _ _ (by omega) ⟨i + 1, rfl, by omega, rfl, z_sF1 _ _ _, fun j hj => ?_, fun j hj => ?_, fun q hq => ?_, fun q hq => ?_⟩
    · rw [z_sF2 _ _ _ hj, z_sI0]
      exact c1 j hj
    · rw [z_sF0, z_sI3 _ _ _ _ hj]
      exact c2 j hj
    · rw [z_sF0, z_sI2]
      by_cases e : q = i
      · rw [z_u1 _ _ (by omega), e]
      · rw [z_u2 _ _ (by omega)]
        exact c3 q (by omega)
    · rw [z_sF0, z_sI2, z_u2 _ _ (by omega)]
      exact c4 q hq
