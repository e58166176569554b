/-! removeTest -/
theorem MS.cg {v : Vs} {n : Nat} {r s : Nat → Int32} (h : MS v n r) (e : ∀ k, k < 440 → r k = s k) : MS v n s := ⟨h.1, h.2.1, fun k hk => by rw [h.2.2 k hk, e k hk]⟩
theorem g_tests4 {v : Vs} {n m : Nat} {r : Nat → Int32} (h : MS v n r) (e : r 4 = nI m) : f_X8_tests v = some (nI m) := by
  unfold f_X8_tests
  rw [z_l4, g_get h (by omega), z_o1, e]
/-- the row while the tests behind t move down: cells below A and below B have moved -/
def SH2 (r : Nat → Int32) (t A B : Nat) (k : Nat) : Int32 := if 182 + 8 * t ≤ k ∧ k < A then r (k + 8) else if 310 + 6 * t ≤ k ∧ k < B then r (k + 6) else r k
theorem h_drop {v : Vs} {n t m : Nat} {r : Nat → Int32} (h : MS v n r) (h4 : r 4 = nI m) (hm : m ≤ 16) (ht : t < m) : ∃ v', lp f_X8_removeTest_L21 (fun _ _ => none) FU (nI t) v = some (nI (m - 1), v') ∧ MS v' n (upd (SH2 r t (182 + 8 * (m - 1)) (310 + 6 * (m - 1))) 4 (nI (m - 1))) ∧ KR n v v' := by
  have key : Ok (lp f_X8_removeTest_L21 (fun _ _ => none) FU (nI t) v) (fun q => q.1 = nI (m - 1) ∧ MS q.2 n (upd (SH2 r t (182 + 8 * (m - 1)) (310 + 6 * (m - 1))) 4 (nI (m - 1))) ∧ KR n v q.2) := by
    have s4 : ∀ A B, SH2 r t A B 4 = nI m := fun A B => by
      unfold SH2
      rw [if_neg (by omega), if_neg (by omega), h4]
    refine zl2 (I := fun k x v' => ∃ j, x = nI j ∧ t ≤ j ∧ j + 1 ≤ m ∧ k = m - 1 - j ∧ MS v' n (SH2 r t (182 + 8 * j) (310 + 6 * j)) ∧ KR n v v') ?_ FU (m - 1 - t) _ _ (by unfold FU; omega) ⟨t, rfl, by omega, by omega, rfl, h.cg (fun k _ => by unfold SH2; rw [if_neg (by omega), if_neg (by omega)]), KR.rf _ _⟩
    rintro k x v' self ⟨j, rfl, htj, hjm, rfl, hM, hK⟩ ih
    unfold f_X8_removeTest_L21
    refine ok_o1e (g_tests4 hM (s4 _ _)) ?_
    rw [z_l1, nI_add]
    by_cases hb : m ≤ j + 1
    · rw [ift hb (by omega)]
      have hj : j = m - 1 := by omega
      subst hj
      refine ok_o1e (g_tests4 hM (s4 _ _)) ?_
      rw [z_sub (by omega)]
      obtain ⟨v2, e2, m2, K2⟩ := h_put hM (k := 4) (by omega) (nI (m - 1))
      refine ok_o1e e2 ?_
      refine ok_o1e (g_tests4 m2 (z_u1 _ _ rfl)) ?_
      exact ok_some ⟨rfl, m2, hK.tr K2⟩
    · rw [iff_ hb (by omega)]
      refine zl2 (I := fun k x v' => ∃ i, x = nI i ∧ i ≤ 8 ∧ k = 8 - i ∧ MS v' n (SH2 r t (182 + 8 * j + i) (310 + 6 * j)) ∧ KR n v v') ?_ FU 8 _ _ (by unfold FU; omega) ⟨0, rfl, by omega, by omega, hM, hK⟩
      rintro k x v' selfA ⟨i, rfl, hi8, rfl, hM, hK⟩ ihA
      unfold f_X8_removeTest_L33
      rw [z_l8]
      by_cases hb2 : 8 ≤ i
      · rw [ift hb2 (by omega)]
        have hi : i = 8 := by omega
        subst hi
        refine zl2 (I := fun k x v' => ∃ o, x = nI o ∧ o ≤ 6 ∧ k = 6 - o ∧ MS v' n (SH2 r t (182 + 8 * j + 8) (310 + 6 * j + o)) ∧ KR n v v') ?_ FU 6 _ _ (by unfold FU; omega) ⟨0, rfl, by omega, by omega, hM, hK⟩
        rintro k x v' selfB ⟨o, rfl, ho6, rfl, hM, hK⟩ ihB
        unfold f_X8_removeTest_L78
        rw [z_l6]
        by_cases hb3 : 6 ≤ o
        · rw [ift hb3 (by omega), z_l1, nI_add]
          have ho : o = 6 := by omega
          subst ho
          exact ih _ _ _ (by omega) ⟨j + 1, rfl, by omega, by omega, rfl, by rw [show 182 + 8 * (j + 1) = 182 + 8 * j + 8 by omega, show 310 + 6 * (j + 1) = 310 + 6 * j + 6 by omega]; exact hM, hK⟩
        · rw [iff_ hb3 (by omega), z_l310, z_mul, nI_add, nI_add, nI_add, nI_add]
          refine ok_o1e (g_get hM (by omega)) ?_
          obtain ⟨v2, e2, m2, K2⟩ := h_put hM (k := 310 + 6 * j + o) (by omega) (SH2 r t (182 + 8 * j + 8) (310 + 6 * j + o) (310 + 6 * j + 6 + o))
          refine ok_o1e e2 ?_
          rw [z_l1, nI_add]
          refine ihB _ _ _ (by omega) ⟨o + 1, rfl, by omega, rfl, m2.cg (fun q hq => ?_), hK.tr K2⟩
          by_cases e : q = 310 + 6 * j + o
          · rw [z_u1 _ _ e]
            unfold SH2
            rw [if_neg (by omega), if_neg (by omega), if_neg (by omega), if_pos (by omega), e]
            exact congrArg r (by omega)
          · rw [z_u2 _ _ e]
            unfold SH2
            by_cases c1 : 182 + 8 * t ≤ q ∧ q < 182 + 8 * j + 8
            · rw [if_pos c1, if_pos c1]
            · rw [if_neg c1, if_neg c1]
              by_cases c2 : 310 + 6 * t ≤ q ∧ q < 310 + 6 * j + o
              · rw [if_pos c2, if_pos (by omega)]
              · rw [if_neg c2, if_neg (by omega)]
      · rw [iff_ hb2 (by omega), z_l182, z_mul, nI_add, nI_add, nI_add, nI_add]
        refine ok_o1e (g_get hM (by omega)) ?_
        obtain ⟨v2, e2, m2, K2⟩ := h_put hM (k := 182 + 8 * j + i) (by omega) (SH2 r t (182 + 8 * j + i) (310 + 6 * j) (182 + 8 * j + 8 + i))
        refine ok_o1e e2 ?_
        rw [z_l1, nI_add]
        refine ihA _ _ _ (by omega) ⟨i + 1, rfl, by omega, rfl, m2.cg (fun q hq => ?_), hK.tr K2⟩
        by_cases e : q = 182 + 8 * j + i
        · rw [z_u1 _ _ e]
          unfold SH2
          rw [if_neg (by omega), if_neg (by omega), if_pos (by omega), e]
          exact congrArg r (by omega)
        · rw [z_u2 _ _ e]
          unfold SH2
          by_cases c1 : 182 + 8 * t ≤ q ∧ q < 182 + 8 * j + i
          · rw [if_pos c1, if_pos (by omega)]
          · rw [if_neg c1, if_neg (by omega : ¬ (182 + 8 * t ≤ q ∧ q < 182 + 8 * j + (i + 1)))]
  obtain ⟨⟨x, v'⟩, e, hx, q⟩ := key
  have hx' : x = nI (m - 1) := hx
  rw [hx'] at e
  exact ⟨v', e, q⟩
-- the class
theorem x_without (x : Int32) {t : Nat} (ht : t < 31) : ∃ y, f_X6_withoutBit x (nI t) = some y ∧ ∀ j, j < 32 → bI y j = if j < t then bI x j else bI x (j + 1) := by
  have hm : (nI 1 <<< (nI t &&& 31) : Int32) - nI 1 = nI (2 ^ t - 1) := by
    rw [g_shl _ (by omega), z_sub (Nat.two_pow_pos t)]
  unfold f_X6_withoutBit
  refine ⟨_, rfl, fun j hj => ?_⟩
  rw [z_l1, hm, z_m1, z_notI, bI_or, bI_and, bI_and, bI_not _ hj, bI_ius _ (by omega), bI_nI, Nat.testBit_two_pow_sub_one]
  by_cases c : j < t
  · simp [c, hj]
  · simp [c, Nat.add_comm]
theorem x_dropT {vT : Vs} {t m : Nat} (h0 : vT.1 0 = nI m) (hm : m ≤ 16) (ht : t < m) : ∃ v', f_X6_drop vT (nI t) = some v' ∧ v'.1 0 = nI (m - 1) ∧ (∀ q, q < m - 1 → v'.2.1 1 q = vT.2.1 1 (if t ≤ q then q + 1 else q) ∧ v'.2.1 2 q = vT.2.1 2 (if t ≤ q then q + 1 else q)) ∧ ∀ o j, o < 6 → j < 32 → bI (v'.2.1 3 o) j = (if j < t then bI (vT.2.1 3 o) j else bI (vT.2.1 3 o) (j + 1)) ∧ bI (v'.2.1 4 o) j = (if j < t then bI (vT.2.1 4 o) j else bI (vT.2.1 4 o) (j + 1)) := by
  show Ok (f_X6_drop vT (nI t)) (fun v' => v'.1 0 = nI (m - 1) ∧ (∀ q, q < m - 1 → v'.2.1 1 q = vT.2.1 1 (if t ≤ q then q + 1 else q) ∧ v'.2.1 2 q = vT.2.1 2 (if t ≤ q then q + 1 else q)) ∧ ∀ o j, o < 6 → j < 32 → bI (v'.2.1 3 o) j = (if j < t then bI (vT.2.1 3 o) j else bI (vT.2.1 3 o) (j + 1)) ∧ bI (v'.2.1 4 o) j = (if j < t then bI (vT.2.1 4 o) j else bI (vT.2.1 4 o) (j + 1)))
  unfold f_X6_drop
  rw [z_l1, nI_add]
  refine zl2 (I := fun k x v' => ∃ j, x = nI j ∧ t + 1 ≤ j ∧ j ≤ m ∧ k = m - j ∧ v'.1 0 = nI m ∧ v'.2.1 3 = vT.2.1 3 ∧ v'.2.1 4 = vT.2.1 4 ∧ ∀ q, v'.2.1 1 q = vT.2.1 1 (if t ≤ q ∧ q + 1 < j then q + 1 else q) ∧ v'.2.1 2 q = vT.2.1 2 (if t ≤ q ∧ q + 1 < j then q + 1 else q)) ?_ FU (m - (t + 1)) _ _ (by unfold FU; omega) ⟨t + 1, rfl, by omega, by omega, rfl, h0, rfl, rfl, fun q => by rw [if_neg (by omega)]; exact ⟨rfl, rfl⟩⟩
  rintro k x v' self ⟨j, rfl, htj, hjm, rfl, c0, c3, c4, c1⟩ ih
  unfold f_X6_drop_L4
  rw [c0]
  by_cases hb : m ≤ j
  · rw [ift hb (by omega)]
    have hj : j = m := by omega
    subst hj
    refine zl2 (I := fun k x v' => ∃ o, x = nI o ∧ o ≤ 6 ∧ k = 6 - o ∧ v'.1 0 = nI j ∧ (∀ q, v'.2.1 1 q = vT.2.1 1 (if t ≤ q ∧ q + 1 < j then q + 1 else q) ∧ v'.2.1 2 q = vT.2.1 2 (if t ≤ q ∧ q + 1 < j then q + 1 else q)) ∧ (∀ p, o ≤ p → v'.2.1 3 p = vT.2.1 3 p ∧ v'.2.1 4 p = vT.2.1 4 p) ∧ ∀ p b, p < o → b < 32 → bI (v'.2.1 3 p) b = (if b < t then bI (vT.2.1 3 p) b else bI (vT.2.1 3 p) (b + 1)) ∧ bI (v'.2.1 4 p) b = (if b < t then bI (vT.2.1 4 p) b else bI (vT.2.1 4 p) (b + 1))) ?_ FU 6 _ _ (by unfold FU; omega) ⟨0, rfl, by omega, by omega, c0, c1, fun p _ => by rw [c3, c4]; exact ⟨rfl, rfl⟩, fun p b hp => by omega⟩
    rintro k x v' selfA ⟨o, rfl, ho6, rfl, d0, d1, d2, d3⟩ ihA
    unfold f_X6_drop_L48
    rw [z_l6]
    by_cases hb2 : 6 ≤ o
    · rw [ift hb2 (by omega), d0, z_l1, z_sub (by omega)]
      refine ok_bn ?_
      refine ok_some ⟨z_sF1 _ _ _, fun q hq => ?_, fun p b hp hq => ?_⟩
      · rw [z_sF0, (d1 q).1, (d1 q).2]
        by_cases c : t ≤ q
        · rw [if_pos (by omega), if_pos c]
          exact ⟨rfl, rfl⟩
        · rw [if_neg (by omega), if_neg c]
          exact ⟨rfl, rfl⟩
      · rw [z_sF0]
        exact d3 p b (by omega) hq
    · rw [iff_ hb2 (by omega)]
      have hin : inb (nI o) 6 = true := z_inb (by omega) (by omega)
      refine ok_gd hin ?_
      rw [z_cl (by omega), (d2 o (by omega)).1]
      obtain ⟨y1, e1, b1⟩ := x_without (vT.2.1 3 o) (t := t) (by omega)
      refine ok_o1e e1 ?_
      refine ok_gd hin ?_
      refine ok_bn ?_
      refine ok_gd hin ?_
      rw [z_sI3 _ _ _ _ (by decide), (d2 o (by omega)).2]
      obtain ⟨y2, e2, b2⟩ := x_without (vT.2.1 4 o) (t := t) (by omega)
      refine ok_o1e e2 ?_
      refine ok_gd hin ?_
      refine ok_bn ?_
      rw [z_l1, nI_add]
      refine ihA _ _ _ (by omega) ⟨o + 1, rfl, by omega, rfl, d0, fun q => ?_, fun p hp => ?_, fun p b hp hq => ?_⟩
      · rw [z_sI3 _ _ _ _ (by decide), z_sI3 _ _ _ _ (by decide), z_sI3 _ _ _ _ (by decide), z_sI3 _ _ _ _ (by decide)]
        exact d1 q
      · rw [z_sI3 _ _ _ _ (show 3 ≠ 4 by decide), z_sI2, z_sI2, z_sI3 _ _ _ _ (by decide), z_u2 _ _ (by omega), z_u2 _ _ (by omega)]
        exact d2 p (by omega)
      · rw [z_sI3 _ _ _ _ (show 3 ≠ 4 by decide), z_sI2, z_sI2, z_sI3 _ _ _ _ (by decide)]
        by_cases e : p = o
        · rw [z_u1 _ _ e, z_u1 _ _ e, e]
          exact ⟨b1 b hq, b2 b hq⟩
        · rw [z_u2 _ _ e, z_u2 _ _ e]
          exact d3 p b (by omega) hq
  · rw [iff_ hb (by omega), z_l1, z_sub (by omega)]
    refine ok_gd (z_inb (by omega) (by omega)) ?_
    refine ok_gd (z_inb (by omega) (by omega)) ?_
    refine ok_bn ?_
    refine ok_gd (z_inb (by omega) (by omega)) ?_
    refine ok_gd (z_inb (by omega) (by omega)) ?_
    refine ok_bn ?_
    rw [z_cl (by omega), z_cl (by omega), nI_add]
    refine ih _ _ _ (by omega) ⟨j + 1, rfl, by omega, by omega, rfl, c0, ?_, ?_, fun q => ?_⟩
    · rw [z_sI3 _ _ _ _ (by decide), z_sI3 _ _ _ _ (by decide), c3]
    · rw [z_sI3 _ _ _ _ (by decide), z_sI3 _ _ _ _ (by decide), c4]
    · rw [z_sI3 _ _ _ _ (show 1 ≠ 2 by decide), z_sI2, z_sI2, z_sI3 _ _ _ _ (show 2 ≠ 1 by decide)]
      have f1 : v'.2.1 1 j = vT.2.1 1 j := by rw [(c1 j).1, if_neg (by omega)]
      have f2 : v'.2.1 2 j = vT.2.1 2 j := by rw [(c1 j).2, if_neg (by omega)]
      rw [f1, f2]
      by_cases e : q = j - 1
      · rw [z_u1 _ _ e, z_u1 _ _ e, if_pos (by omega), show q + 1 = j by omega]
        exact ⟨rfl, rfl⟩
      · rw [z_u2 _ _ e, z_u2 _ _ e, (c1 q).1, (c1 q).2]
        by_cases c : t ≤ q ∧ q + 1 < j
        · rw [if_pos c, if_pos (by omega)]
          exact ⟨rfl, rfl⟩
        · rw [if_neg c, if_neg (by omega)]
          exact ⟨rfl, rfl⟩
theorem q_removeTest {vM vF vC vT vRT vG vRF vD : Vs} {vH : Hv} (hI : INV vM vF vC vT vRT vG vRF vD vH) (x1 : Int32) :
    ∃ c x vF' vT' vH' y vM', f_X7_removeTest vF vC vT vH x1 = some (c, x, vF', vT', vH') ∧ f_X8_removeTest vM x1 = some (y, vM') ∧ INV vM' vF' vC vT' vRT vG vRF vD vH' ∧ ((c = 0 ∧ vM'.1 0 = nI 0 ∧ x = y) ∨ (c = 2 ∧ vM'.1 0 = nI 1)) := by
  obtain ⟨n, hn3, hn9, hG, hF, hH, hX⟩ := id hI
  obtain ⟨hw, ht, hC, hT⟩ := id hG
  have hn := hw.nf
  have h16 := ht.1.2
  have hM := MS.of hn3 hn9
  have M0 := hM.sF 0 (nI 0) (by decide)
  have t0 : (sF vM 0 (nI 0)).1 0 = nI 0 := z_sF1 _ _ _
  rcases in_or x1 (n := NT (rwv vM n)) (by omega) with ⟨t, h1, rfl⟩ | h1
  · obtain ⟨m, hm⟩ : ∃ m, m = NT (rwv vM n) := ⟨_, rfl⟩
    have h4 : rwv vM n 4 = nI m := by rw [hm]; exact ht.1.1
    rw [← hm] at h1 h16
    obtain ⟨v1, h1', e1, e2, m1, k1, k2, hHX⟩ := q_change (v := sF vM 0 (nI 0)) hn3 hn9 hG (hH.qm (QM.th _ _))
    have m1 : MS v1 ((n + 1) % 9) (rwv vM n) := m1
    obtain ⟨v2, e3, m2, K2⟩ := h_drop m1 h4 h16 h1
    have hT0 : vT.1 0 = nI m := by rw [hm]; exact hT.1
    obtain ⟨vT', e4, u0, u1, u2⟩ := x_dropT hT0 h16 h1
    obtain ⟨S, hSd⟩ : ∃ S, S = rwv v2 ((n + 1) % 9) := ⟨_, rfl⟩
    have hS4 : S 4 = nI (m - 1) := by rw [hSd, m2.rw (by omega), z_u1 _ _ rfl]
    have hlow : ∀ k, k < 182 → k ≠ 4 → S k = rwv vM n k := fun k h8 h9 => by
      rw [hSd, m2.rw (by omega), z_u2 _ _ h9]
      unfold SH2
      rw [if_neg (by omega), if_neg (by omega)]
    have e0 : NI S = NI (rwv vM n) := by show nn (S 0) = _; rw [hlow 0 (by omega) (by omega)]
    have eO : NO S = NO (rwv vM n) := by show nn (S 2) = _; rw [hlow 2 (by omega) (by omega)]
    have eT : NT S = m - 1 := by show nn (S 4) = _; rw [hS4, nn_nI (by omega)]
    have htv : ∀ q i, q < m - 1 → i < 8 → S (182 + 8 * q + i) = rwv vM n (182 + 8 * (if t ≤ q then q + 1 else q) + i) := fun q i h8 h9 => by
      rw [hSd, m2.rw (by omega), z_u2 _ _ (by omega)]
      unfold SH2
      by_cases c : t ≤ q
      · rw [if_pos (by omega), if_pos c]
        exact congrArg _ (by omega)
      · rw [if_neg (by omega), if_neg (by omega), if_neg c]
    have hsn : ∀ q o, q < m - 1 → o < 6 → S (310 + 6 * q + o) = rwv vM n (310 + 6 * (if t ≤ q then q + 1 else q) + o) := fun q o h8 h9 => by
      rw [hSd, m2.rw (by omega), z_u2 _ _ (by omega)]
      unfold SH2
      by_cases c : t ≤ q
      · rw [if_neg (by omega), if_pos (by omega), if_pos c]
        exact congrArg _ (by omega)
      · rw [if_neg (by omega), if_neg (by omega), if_neg c]
    have etv : ∀ q i, q < m - 1 → i < 8 → tv S q i = tv (rwv vM n) (if t ≤ q then q + 1 else q) i := fun q i h8 h9 => by show nn _ = nn _; rw [htv q i h8 h9]
    have esn : ∀ q o, q < m - 1 → o < 6 → sn S q o = sn (rwv vM n) (if t ≤ q then q + 1 else q) o := fun q o h8 h9 => by show nn _ = nn _; rw [hsn q o h8 h9]
    have hup : ∀ q, q < m - 1 → (if t ≤ q then q + 1 else q) < NT (rwv vM n) := fun q h8 => by
      rw [← hm]
      split <;> omega
    have hwS : WFc S := hw.of hlow
    have htS : WFt S := by
      unfold WFt
      rw [e0, eT]
      refine ⟨⟨hS4, by omega⟩, fun q i h8 h9 => ?_, fun q o h8 h9 => ?_⟩
      · rw [htv q i h8 (by omega), etv q i h8 (by omega)]
        exact ht.2.1 _ i (hup q h8) h9
      · rw [hsn q o h8 h9, esn q o h8 h9]
        exact ht.2.2 _ o (hup q h8) h9
    have hTS : RT S vT' := by
      unfold RT
      rw [e0, eT, eO]
      refine ⟨u0, fun q i h8 h9 => ?_, fun o q h8 h9 => ?_⟩
      · rw [(u1 q h8).1, (u1 q h8).2, etv q i h8 (by omega)]
        exact hT.2.1 _ i (hup q h8) h9
      · rw [(u2 o q h8 h9).1, (u2 o q h8 h9).2]
        by_cases c : q < t
        · rw [if_pos c, if_pos c, (hT.2.2 o q h8 h9).1, (hT.2.2 o q h8 h9).2, esn q o (by omega) h8, if_neg (by omega)]
          have c1 : q < NT (rwv vM n) := by omega
          have c2 : q < m - 1 := by omega
          simp [c1, c2]
        · rw [if_neg c, if_neg c]
          by_cases c2 : q < m - 1
          · rw [(hT.2.2 o (q + 1) h8 (by omega)).1, (hT.2.2 o (q + 1) h8 (by omega)).2, esn q o c2 h8, if_pos (by omega)]
            have c1 : q + 1 < NT (rwv vM n) := by omega
            simp [c1, c2]
          · by_cases c3 : q + 1 < 32
            · rw [(hT.2.2 o (q + 1) h8 c3).1, (hT.2.2 o (q + 1) h8 c3).2]
              have c1 : ¬ q + 1 < NT (rwv vM n) := by omega
              simp [c1, c2]
            · rw [bI_ge (by omega), bI_ge (by omega)]
              simp [c2]
    have t2 : v2.1 0 = nI 0 := by rw [K2.1, k1 0 (by decide) (by decide)]; exact t0
    refine ⟨0, nI (m - 1), sF vF 6 (nI 0), vT', h1', nI (m - 1), v2, ?_, ?_, ⟨(n + 1) % 9, m2.1, m2.2.1, by rw [← hSd]; exact ⟨hwS, htS, hC.of hw hlow, hTS⟩, by rw [← hSd]; exact FI.tests hw hlow hF (z_sF1 _ _ _) (z_sF2 _ _ _ (by decide)) rfl, hHX v2 K2, hX.same (by rw [K2.1, k1 12 (by decide) (by decide)]; rfl) (by rw [K2.1, k1 16 (by decide) (by decide)]; rfl) (by rw [K2.2.1 11 (by decide), k2 11 (by decide)]; rfl)⟩, Or.inl ⟨rfl, t2, rfl⟩⟩
    · unfold f_X7_removeTest
      simp (disch := omega) only [z_gt, z_o1, z_o2, z_o3, z_o4, z_o5, z_o6, z_o7, z_o8, z_o9, z_bn, z_jn, nI_add, z_mul, z_sub, z_div, Nat.not_lt_zero, z_cl, z_le, z_lt, z_eq, z_inb, z_nz, z_isB0, z_notJ, z_notI, z_isB1, z_m1, z_pos, z_pos', z_nlt, z_nle', z_m1le, z_m1a, z_nle, z_sI0, z_sI1, z_sI2, z_sI3, z_sJ0, z_sJ1, z_sJ2, z_sJ3, z_sF0, z_sF1, z_sF2, z_sA0, z_sA1, z_sA2, z_sA3, z_sAA, z_sIA, ↓reduceIte, Nat.reduceEqDiff, Nat.reduceLeDiff, Nat.reduceLT, z_l0, z_l1, z_l2, z_l3, z_l4, z_l5, z_l6, z_l7, z_l8, z_l9, z_l10, z_l11, z_l12, z_l13, z_l14, z_l15, z_l16, z_l17, z_l18, z_l19, z_l20, z_l21, z_l22, z_l23, z_l24, z_l25, z_l26, z_l27, z_l28, z_l32, z_l48, z_l56, z_l57, z_l59, z_l63, z_l64, z_l96, z_l97, z_l122, z_l127, z_l152, z_l158, z_l182, z_l255, z_l256, z_l310, z_l342, z_l406, z_l440, z_l729, z_l800, z_l3960, z_l14336, z_l14592, z_l100000, x_test_y ht hT (show t < NT (rwv vM n) by omega), e2, e4, u0]
    · unfold f_X8_removeTest
      simp (disch := omega) only [z_gt, z_o1, z_o2, z_o3, z_o4, z_o5, z_o6, z_o7, z_o8, z_o9, z_bn, z_jn, nI_add, z_mul, z_sub, z_div, Nat.not_lt_zero, z_cl, z_le, z_lt, z_eq, z_inb, z_nz, z_isB0, z_notJ, z_notI, z_isB1, z_m1, z_pos, z_pos', z_nlt, z_nle', z_m1le, z_m1a, z_nle, z_sI0, z_sI1, z_sI2, z_sI3, z_sJ0, z_sJ1, z_sJ2, z_sJ3, z_sF0, z_sF1, z_sF2, z_sA0, z_sA1, z_sA2, z_sA3, z_sAA, z_sIA, ↓reduceIte, Nat.reduceEqDiff, Nat.reduceLeDiff, Nat.reduceLT, z_l0, z_l1, z_l2, z_l3, z_l4, z_l5, z_l6, z_l7, z_l8, z_l9, z_l10, z_l11, z_l12, z_l13, z_l14, z_l15, z_l16, z_l17, z_l18, z_l19, z_l20, z_l21, z_l22, z_l23, z_l24, z_l25, z_l26, z_l27, z_l28, z_l32, z_l48, z_l56, z_l57, z_l59, z_l63, z_l64, z_l96, z_l97, z_l122, z_l127, z_l152, z_l158, z_l182, z_l255, z_l256, z_l310, z_l342, z_l406, z_l440, z_l729, z_l800, z_l3960, z_l14336, z_l14592, z_l100000, g_isTest_y M0 ht t0 (show t < NT (rwv vM n) by omega), e1, e3]
  · refine ⟨2, nI 0, vF, vT, vH, nI 0, thM vM 1, ?_, ?_, hI.th (QM.tm _ _), Or.inr ⟨rfl, thM_0 _ _⟩⟩
    · unfold f_X7_removeTest
      rw [x_test_n hT h1, z_o1, if_neg (by decide)]
      rfl
    · unfold f_X8_removeTest
      simp (disch := omega) only [z_gt, z_o1, z_o2, z_o3, z_o4, z_o5, z_o6, z_o7, z_o8, z_o9, z_bn, z_jn, nI_add, z_mul, z_sub, z_div, Nat.not_lt_zero, z_cl, z_le, z_lt, z_eq, z_inb, z_nz, z_isB0, z_notJ, z_notI, z_isB1, z_m1, z_pos, z_pos', z_nlt, z_nle', z_m1le, z_m1a, z_nle, z_sI0, z_sI1, z_sI2, z_sI3, z_sJ0, z_sJ1, z_sJ2, z_sJ3, z_sF0, z_sF1, z_sF2, z_sA0, z_sA1, z_sA2, z_sA3, z_sAA, z_sIA, ↓reduceIte, Nat.reduceEqDiff, Nat.reduceLeDiff, Nat.reduceLT, z_l0, z_l1, z_l2, z_l3, z_l4, z_l5, z_l6, z_l7, z_l8, z_l9, z_l10, z_l11, z_l12, z_l13, z_l14, z_l15, z_l16, z_l17, z_l18, z_l19, z_l20, z_l21, z_l22, z_l23, z_l24, z_l25, z_l26, z_l27, z_l28, z_l32, z_l48, z_l56, z_l57, z_l59, z_l63, z_l64, z_l96, z_l97, z_l122, z_l127, z_l152, z_l158, z_l182, z_l255, z_l256, z_l310, z_l342, z_l406, z_l440, z_l729, z_l800, z_l3960, z_l14336, z_l14592, z_l100000, g_isTest_n M0 ht t0 h1, thM]
