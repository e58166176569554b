/-! append -/
theorem bI_sar (x : Int32) {k : Nat} (hk : k < 32) {j : Nat} (h : k + j < 32) : bI (x >>> (nI k &&& 31)) j = bI x (k + j) := by
  unfold bI
  rw [Int32.toBitVec_shiftRight, BitVec.sshiftRight_eq', e_shl k hk, BitVec.getLsbD_sshiftRight]
  have h1 : ¬ 32 ≤ j := by omega
  simp [h1, h]
def byt (x : Int32) (i : Nat) : Int32 := ius x (nI (24 - 8 * i)) &&& nI 255
theorem b255 (j : Nat) (hj : j < 32) : bI (nI 255) j = decide (j < 8) := by
  rw [bI_nI, show (255 : Nat) = 2 ^ 8 - 1 from rfl, Nat.testBit_two_pow_sub_one]
  simp [hj]
theorem byt_sar (x : Int32) {i : Nat} (hi : i < 4) : (x >>> (nI (24 - 8 * i) &&& 31)) &&& nI 255 = byt x i := bI_ext (fun j hj => by
  unfold byt
  rw [bI_and, bI_and, b255 j hj]
  by_cases c : j < 8
  · rw [bI_sar _ (by omega) (by omega), bI_ius _ (by omega)]
  · simp [c])
theorem nI_NI (x : Int32) : nI (NI_ x) = x := by
  apply Int32.toBitVec_inj.mp
  show BitVec.ofNat 32 x.toBitVec.toNat = _
  rw [BitVec.ofNat_toNat, BitVec.setWidth_eq]
theorem byt_lt (x : Int32) (i : Nat) : ∃ b, b < 256 ∧ byt x i = nI b := by
  refine ⟨NI_ (byt x i), ?_, (nI_NI _).symm⟩
  unfold byt
  rw [nI_and, show NI_ (nI 255) = 255 from rfl]
  have := Nat.and_le_right (n := NI_ (ius x (nI (24 - 8 * i)))) (m := 255)
  omega
def sft (i : Nat) : Int32 := if i = 4 then -8 else nI (24 - 8 * i)
theorem sft_s : ∀ i, i < 4 → sft i = nI (24 - 8 * i) ∧ ¬ nI (24 - 8 * i) < 0 ∧ nI (24 - 8 * i) + (-8 : Int32) = sft (i + 1) := by decide +kernel
theorem h_four {v : Vs} {L : Nat} (hL : v.1 12 = nI L) (h8 : L + 4 ≤ 800) (x : Int32) : ∃ v', f_X8_four v x = some v' ∧ v'.1 12 = nI (L + 4) ∧ (∀ j, j ≠ 12 → v'.1 j = v.1 j) ∧ (∀ j, j ≠ 11 → v'.2.1 j = v.2.1 j) ∧ (∀ i, i < 4 → v'.2.1 11 (L + i) = byt x i) ∧ ∀ i, i < L → v'.2.1 11 i = v.2.1 11 i := by
  show Ok (f_X8_four v x) (fun v' => v'.1 12 = nI (L + 4) ∧ (∀ j, j ≠ 12 → v'.1 j = v.1 j) ∧ (∀ j, j ≠ 11 → v'.2.1 j = v.2.1 j) ∧ (∀ i, i < 4 → v'.2.1 11 (L + i) = byt x i) ∧ ∀ i, i < L → v'.2.1 11 i = v.2.1 11 i)
  unfold f_X8_four
  refine zl2 (I := fun m a v' => ∃ i, a = sft i ∧ i ≤ 4 ∧ m = 4 - i ∧ v'.1 12 = nI (L + i) ∧ (∀ j, j ≠ 12 → v'.1 j = v.1 j) ∧ (∀ j, j ≠ 11 → v'.2.1 j = v.2.1 j) ∧ (∀ q, q < i → v'.2.1 11 (L + q) = byt x q) ∧ ∀ q, q < L → v'.2.1 11 q = v.2.1 11 q) ?_ FU 4 _ _ (by unfold FU; omega) ⟨0, rfl, by omega, by omega, hL, fun _ _ => rfl, fun _ _ => rfl, fun q hq => by omega, fun _ _ => rfl⟩
  rintro m a v' self ⟨i, rfl, hle, rfl, c0, c1, c2, c3, c4⟩ ih
  unfold f_X8_four_L3
  by_cases hb : i = 4
  · subst hb
    rw [if_pos (show sft 4 < 0 by decide)]
    exact ok_some ⟨c0, c1, c2, c3, c4⟩
  · obtain ⟨s1, s2, s3⟩ := sft_s i (by omega)
    rw [s1, if_neg s2, c0]
    refine ok_gd (z_inb (by omega) (by omega)) ?_
    refine ok_bn ?_
    refine ok_bn ?_
    rw [z_cl (by omega), z_sI0, c0, s3, z_l1, nI_add, z_l255, byt_sar x (by omega)]
    refine ih _ _ _ (by omega) ⟨i + 1, rfl, by omega, rfl, z_sF1 _ _ _, fun j hj => ?_, fun j hj => ?_, fun q hq => ?_, fun q hq => ?_⟩
    · rw [z_sF2 _ _ _ hj, z_sI0]
      exact c1 j hj
    · rw [z_sF0, z_sI3 _ _ _ _ hj]
      exact c2 j hj
    · rw [z_sF0, z_sI2]
      by_cases e : q = i
      · rw [z_u1 _ _ (by omega), e]
      · rw [z_u2 _ _ (by omega)]
        exact c3 q (by omega)
    · rw [z_sF0, z_sI2, z_u2 _ _ (by omega)]
      exact c4 q hq
theorem x_four {v : Vs} {L : Nat} (hL : v.1 1 = nI L) (h8 : L + 4 ≤ 800) (x : Int32) : ∃ v', f_X5_putBytes v x = some v' ∧ v'.1 1 = nI (L + 4) ∧ (∀ j, j ≠ 1 → v'.1 j = v.1 j) ∧ (∀ j, j ≠ 3 → v'.2.1 j = v.2.1 j) ∧ (∀ i, i < 4 → v'.2.1 3 (L + i) = byt x i) ∧ ∀ i, i < L → v'.2.1 3 i = v.2.1 3 i := by
  show Ok (f_X5_putBytes v x) (fun v' => v'.1 1 = nI (L + 4) ∧ (∀ j, j ≠ 1 → v'.1 j = v.1 j) ∧ (∀ j, j ≠ 3 → v'.2.1 j = v.2.1 j) ∧ (∀ i, i < 4 → v'.2.1 3 (L + i) = byt x i) ∧ ∀ i, i < L → v'.2.1 3 i = v.2.1 3 i)
  unfold f_X5_putBytes
  refine zl2 (I := fun m a v' => ∃ i, a = sft i ∧ i ≤ 4 ∧ m = 4 - i ∧ v'.1 1 = nI (L + i) ∧ (∀ j, j ≠ 1 → v'.1 j = v.1 j) ∧ (∀ j, j ≠ 3 → v'.2.1 j = v.2.1 j) ∧ (∀ q, q < i → v'.2.1 3 (L + q) = byt x q) ∧ ∀ q, q < L → v'.2.1 3 q = v.2.1 3 q) ?_ FU 4 _ _ (by unfold FU; omega) ⟨0, rfl, by omega, by omega, hL, fun _ _ => rfl, fun _ _ => rfl, fun q hq => by omega, fun _ _ => rfl⟩
  rintro m a v' self ⟨i, rfl, hle, rfl, c0, c1, c2, c3, c4⟩ ih
  unfold f_X5_putBytes_L3
  rw [z_jn]
  by_cases hb : i = 4
  · subst hb
    rw [if_pos (show sft 4 < 0 by decide)]
    exact ok_some ⟨c0, c1, c2, c3, c4⟩
  · obtain ⟨s1, s2, s3⟩ := sft_s i (by omega)
    rw [s1, if_neg s2, c0, z_l800, iff_ (by omega) (by omega)]
    refine ok_gd (z_inb (by omega) (by omega)) ?_
    refine ok_bn ?_
    refine ok_bn ?_
    rw [z_cl (by omega), z_sI0, c0, s3, z_l1, nI_add, z_l255, show ius x (nI (24 - 8 * i)) &&& nI 255 = byt x i from rfl]
    refine ih _ _ _ (by omega) ⟨i + 1, rfl, by omega, rfl, z_sF1 _ _ _, fun j hj => ?_, fun j hj => ?_, fun q hq => ?_, fun q hq => ?_⟩
    · rw [z_sF2 _ _ _ hj, z_sI0]
      exact c1 j hj
    · rw [z_sF0, z_sI3 _ _ _ _ hj]
      exact c2 j hj
    · rw [z_sF0, z_sI2]
      by_cases e : q = i
      · rw [z_u1 _ _ (by omega), e]
      · rw [z_u2 _ _ (by omega)]
        exact c3 q (by omega)
    · rw [z_sF0, z_sI2, z_u2 _ _ (by omega)]
      exact c4 q hq
/-- texts of length L that agree -/
def TL (L : Nat) (v d : Vs) : Prop := v.1 12 = nI L ∧ d.1 1 = nI L ∧ L ≤ 800 ∧ (∀ i, i < L → v.2.1 11 i = d.2.1 3 i ∧ ∃ b, b < 256 ∧ d.2.1 3 i = nI b) ∧ v.1 16 = d.1 2
/-- what appending leaves alone -/
def AQ (v v' : Vs) : Prop := (∀ j, j ≠ 12 → v'.1 j = v.1 j) ∧ ∀ j, j ≠ 11 → v'.2.1 j = v.2.1 j
theorem AQ.tr {a b c : Vs} (h : AQ a b) (h2 : AQ b c) : AQ a c := ⟨fun j hj => (h2.1 j hj).trans (h.1 j hj), fun j hj => (h2.2 j hj).trans (h.2 j hj)⟩
theorem q_four {L : Nat} {v d : Vs} (h : TL L v d) (h8 : L + 4 ≤ 800) (x : Int32) : ∃ v' d', f_X8_four v x = some v' ∧ f_X5_putBytes d x = some d' ∧ TL (L + 4) v' d' ∧ AQ v v' := by
  obtain ⟨a, b, c, e, f⟩ := h
  obtain ⟨v', e1, a1, a2, a3, a4, a5⟩ := h_four a h8 x
  obtain ⟨d', e2, b1, b2, b3, b4, b5⟩ := x_four b h8 x
  refine ⟨v', d', e1, e2, ⟨a1, b1, h8, fun i hi => ?_, by rw [a2 16 (by decide), b2 2 (by decide), f]⟩, a2, a3⟩
  by_cases q : i < L
  · rw [a5 i q, b5 i q]
    exact e i q
  · have a4' := a4 (i - L) (by omega)
    have b4' := b4 (i - L) (by omega)
    rw [show L + (i - L) = i by omega] at a4' b4'
    rw [a4', b4']
    exact ⟨rfl, byt_lt x _⟩
theorem q_append {vM vF vC vT vRT vG vRF vD : Vs} {vH : Hv} (hI : INV vM vF vC vT vRT vG vRF vD vH) (x1 x2 x3 x4 x5 : Int32) :
    ∃ x vD' vM', f_X7_append vF vD x1 x2 x3 x4 x5 = some (x, vD') ∧ f_X8_append vM x1 x2 x3 x4 x5 = some (x, vM') ∧ INV vM' vF vC vT vRT vG vRF vD' vH := by
  obtain ⟨n, hn3, hn9, hG, hF, hH, L, tL⟩ := id hI
  have t0 : TL L (sF vM 0 (nI 0)) vD := tL
  by_cases h : L + 20 ≤ 800
  · obtain ⟨v1, d1, e1, f1, t1, q1⟩ := q_four t0 (by omega) x1
    obtain ⟨v2, d2, e2, f2, t2, q2⟩ := q_four t1 (by omega) x2
    obtain ⟨v3, d3, e3, f3, t3, q3⟩ := q_four t2 (by omega) x3
    obtain ⟨v4, d4, e4, f4, t4, q4⟩ := q_four t3 (by omega) x4
    obtain ⟨v5, d5, e5, f5, t5, q5⟩ := q_four t4 (by omega) x5
    have q := (((q1.tr q2).tr q3).tr q4).tr q5
    have er : ∀ m, rwv v5 m = rwv vM m := fun m => rwv_eq (fun k _ => by rw [q.2 1 (by decide)]; rfl)
    have r0 : v5.1 3 = vM.1 3 := q.1 3 (by decide)
    have r4 : v5.1 4 = vM.1 4 := q.1 4 (by decide)
    refine ⟨nI (L + 20), d5, v5, ?_, ?_, n, r0.trans hn3, hn9, by rw [er]; exact hG, by rw [er]; exact hF, ?_, _, t5⟩
    · unfold f_X7_append
      have l1 : vD.1 1 = nI L := t0.2.1
      have l5 : d5.1 1 = nI (L + 20) := t5.2.1
      rw [l1, show (20 : Int32) = nI 20 from rfl, nI_add, z_l800, ift h (by omega), f1, z_o1, f2, z_o1, f3, z_o1, f4, z_o1, f5, z_o1, l5]
    · unfold f_X8_append
      have l1 : (sF vM 0 (nI 0)).1 12 = nI L := t0.1
      have l5 : v5.1 12 = nI (L + 20) := t5.1
      rw [z_bn, show sF vM 0 (0 : Int32) = sF vM 0 (nI 0) from rfl, l1, show (20 : Int32) = nI 20 from rfl, nI_add, z_l800, ift h (by omega), e1, z_o1, e2, z_o1, e3, z_o1, e4, z_o1, e5, z_o1, l5]
    · obtain ⟨u, x, a, b, c, d, e, f⟩ := hH
      exact ⟨u, x, r4.trans a, b, c, d, e, fun j h1 h2 => by rw [er]; exact f j h1 h2⟩
  · refine ⟨im1, vD, sF vM 0 (nI 0), ?_, ?_, hI.th (QM.th _ _)⟩
    · unfold f_X7_append
      have l1 : vD.1 1 = nI L := t0.2.1
      have hL := t0.2.2.1
      rw [l1, show (20 : Int32) = nI 20 from rfl, nI_add, z_l800, iff_ h (by omega)]
      rfl
    · unfold f_X8_append
      have l1 : (sF vM 0 (nI 0)).1 12 = nI L := t0.1
      have hL := t0.2.2.1
      rw [z_bn, show sF vM 0 (0 : Int32) = sF vM 0 (nI 0) from rfl, l1, show (20 : Int32) = nI 20 from rfl, nI_add, z_l800, iff_ h (by omega)]
      rfl
theorem q_errorOffset {vM vF vC vT vRT vG vRF vD : Vs} {vH : Hv} (hI : INV vM vF vC vT vRT vG vRF vD vH) :
    ∃ x vM', f_X7_errorOffset vF vD = some x ∧ f_X8_errorOffset vM = some (x, vM') ∧ QM vM vM' := by
  obtain ⟨n, hn3, hn9, hG, hF, hH, L, tL⟩ := id hI
  refine ⟨vD.1 2, sF vM 0 (nI 0), rfl, ?_, QM.th _ _⟩
  unfold f_X8_errorOffset
  have l1 : (sF vM 0 (nI 0)).1 16 = vD.1 2 := tL.2.2.2.2
  rw [z_bn, show sF vM 0 (0 : Int32) = sF vM 0 (nI 0) from rfl, l1]
