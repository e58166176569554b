/-! reading a bridge, on both sides -/
theorem dep_b {q : Nat → Int32} (hw : WFc q) {x y : Nat} (hx : x < NW q) (hy : y < NW q) (hne : x ≠ y) : f_X0_hasBit (nI (bel q x)) (nI y) = some (nI (if dep q y x = true then 1 else 0)) := by
  have hn := hw.nf
  rw [x_hasBit _ (by omega), bI_nI, decide_eq_true (show y < 32 by omega), Bool.true_and]
  unfold dep
  rw [decide_eq_false hne, Bool.false_or]
  cases (bel q x).testBit y <;> rfl
def brQ (q : Nat → Int32) (t x y : Nat) : Nat → Int32 := upd (upd (upd (upd q (158 + 3 * NB q) (nI t)) (158 + 3 * NB q + 1) (nI x)) (158 + 3 * NB q + 2) (nI y)) 3 (nI (NB q + 1))
theorem put_bridge {q : Nat → Int32} {vC vT : Vs} (hG : GR q vC vT) (h8 : NB q < 8) {t x y : Nat} (ht1 : t ≤ 1) (hx : x < NW q) (hy : y < NW q) : ∃ vC', f_X0_putBridge vC (nI t) (nI x) (nI y) = some vC' ∧ GR (brQ q t x y) vC' vT ∧ (∀ j, 4 ≤ j → j ≤ 9 → vC'.2.1 j = vC.2.1 j) ∧ NW (brQ q t x y) = NW q := by
  obtain ⟨hw, ht, hC, hT⟩ := hG
  have hnf := hw.nf
  have h16 := ht.1.2
  obtain ⟨s, hs⟩ : ∃ s, s = brQ q t x y := ⟨_, rfl⟩
  rw [← hs]
  have es : ∀ k, k ≠ 3 → k ≠ 158 + 3 * NB q → k ≠ 158 + 3 * NB q + 1 → k ≠ 158 + 3 * NB q + 2 → s k = q k := fun k a b c d => by rw [hs, brQ, z_u2 _ _ a, z_u2 _ _ d, z_u2 _ _ c, z_u2 _ _ b]
  have s3 : s 3 = nI (NB q + 1) := by rw [hs, brQ, z_u1 _ _ rfl]
  have b0 : s (158 + 3 * NB q) = nI t := by rw [hs, brQ, z_u2 _ _ (by omega), z_u2 _ _ (by omega), z_u2 _ _ (by omega), z_u1 _ _ rfl]
  have b1 : s (158 + 3 * NB q + 1) = nI x := by rw [hs, brQ, z_u2 _ _ (by omega), z_u2 _ _ (by omega), z_u1 _ _ rfl]
  have b2 : s (158 + 3 * NB q + 2) = nI y := by rw [hs, brQ, z_u2 _ _ (by omega), z_u1 _ _ rfl]
  have eNO : NO s = NO q := by show nn (s 2) = nn (q 2); rw [es 2 (by omega) (by omega) (by omega) (by omega)]
  have eNB : NB s = NB q + 1 := by show nn (s 3) = _; rw [s3, nn_nI (by omega)]
  have hlow : ∀ k, k < 152 → k ≠ 2 → k ≠ 3 → k ≠ 4 → s k = q k := fun k a b c d => es k c (by omega) (by omega) (by omega)
  obtain ⟨a1, a2, a3, a4, a5, a6, a7, a8, a9⟩ := id hw
  have hou : ∀ o, o < NO s → s (152 + o) = nI (ou s o) ∧ ou s o < NW q := fun o ho => by
    have e1 := es (152 + o) (by omega) (by omega) (by omega) (by omega)
    have e2 : ou s o = ou q o := by show nn _ = nn _; rw [e1]
    rw [e1, e2]
    exact a8 o (by omega)
  have hbr : ∀ b, b < NB s → (s (158 + 3 * b) = nI (bk s b) ∧ bk s b ≤ 1) ∧ (s (158 + 3 * b + 1) = nI (ba s b) ∧ ba s b < NW q) ∧ (s (158 + 3 * b + 2) = nI (bb s b) ∧ bb s b < NW q) := fun b hb => by
    by_cases e : b = NB q
    · subst e
      have c1 : bk s (NB q) = t := by show nn (s (158 + 3 * NB q)) = _; rw [b0, nn_nI (by omega)]
      have c2 : ba s (NB q) = x := by show nn (s (158 + 3 * NB q + 1)) = _; rw [b1, nn_nI (by omega)]
      have c3 : bb s (NB q) = y := by show nn (s (158 + 3 * NB q + 2)) = _; rw [b2, nn_nI (by omega)]
      rw [c1, c2, c3]
      exact ⟨⟨b0, ht1⟩, ⟨b1, hx⟩, b2, hy⟩
    · have d1 := es (158 + 3 * b) (by omega) (by omega) (by omega) (by omega)
      have d2 := es (158 + 3 * b + 1) (by omega) (by omega) (by omega) (by omega)
      have d3 := es (158 + 3 * b + 2) (by omega) (by omega) (by omega) (by omega)
      have c1 : bk s b = bk q b := by show nn _ = nn _; rw [d1]
      have c2 : ba s b = ba q b := by show nn _ = nn _; rw [d2]
      have c3 : bb s b = bb q b := by show nn _ = nn _; rw [d3]
      rw [d1, d2, d3, c1, c2, c3]
      exact a9 b (by omega)
  obtain ⟨ws, e0, e1⟩ := gsame hw hlow ⟨by rw [eNO, es 2 (by omega) (by omega) (by omega) (by omega)]; exact a3.1, by omega⟩ ⟨by rw [eNB]; exact s3, by omega⟩ hou hbr
  obtain ⟨c1, c2, c3, c4, c5, c6⟩ := id hC
  have ec : f_X0_putBridge vC (nI t) (nI x) (nI y) = some (sF (sI (sI (sI vC 13 (NB q) (nI t)) 11 (NB q) (nI x)) 12 (NB q) (nI y)) 3 (nI (NB q + 1))) := by
    have hin : inb (nI (NB q)) 8 = true := z_inb (by omega) (by omega)
    unfold f_X0_putBridge
    rw [c1.2.2.2, hin, z_gt, z_bn, z_cl (by omega), z_sI0, c1.2.2.2, hin, z_gt, z_bn, z_cl (by omega), z_sI0, z_sI0, c1.2.2.2, hin, z_gt, z_bn, z_cl (by omega), z_sI0, z_sI0, z_sI0, c1.2.2.2, z_p1]
    rfl
  refine ⟨_, ec, ⟨ws, ?_, ?_, ?_⟩, fun j h1 h2 => by rw [z_sF0, z_sI3 _ _ _ _ (by omega), z_sI3 _ _ _ _ (by omega), z_sI3 _ _ _ _ (by omega)], e1⟩
  · exact ht.of hnf.2.2.1 (es 0 (by omega) (by omega) (by omega) (by omega)) (es 4 (by omega) (by omega) (by omega) (by omega)) (fun k h1 h2 => es k (by omega) (by omega) (by omega) (by omega))
  · refine csame hw hlow hC rfl rfl ?_ (by rw [z_sF1, eNB]) (fun j h1 h2 => by rw [z_sF0, z_sI3 _ _ _ _ (by omega), z_sI3 _ _ _ _ (by omega), z_sI3 _ _ _ _ (by omega)]) (fun o ho => ?_) (fun b hb => ?_)
    · rw [z_sF2 _ _ _ (by decide), z_sI0, z_sI0, z_sI0, eNO]; exact c1.2.2.1
    · rw [z_sF0, z_sI3 _ _ _ _ (by decide), z_sI3 _ _ _ _ (by decide), z_sI3 _ _ _ _ (by decide), es _ (by omega) (by omega) (by omega) (by omega)]
      exact c5 o (by omega)
    · rw [z_sF0, z_sI3 _ _ _ _ (show 13 ≠ 12 by decide), z_sI3 _ _ _ _ (show 13 ≠ 11 by decide), z_sI2, z_sI3 _ _ _ _ (show 11 ≠ 12 by decide), z_sI2, z_sI2, z_sI3 _ _ _ _ (show 11 ≠ 13 by decide), z_sI3 _ _ _ _ (show 12 ≠ 11 by decide), z_sI3 _ _ _ _ (show 12 ≠ 13 by decide)]
      by_cases e : b = NB q
      · rw [z_u1 _ _ e, z_u1 _ _ e, z_u1 _ _ e, e, b0, b1, b2]
        exact ⟨rfl, rfl, rfl⟩
      · rw [z_u2 _ _ e, z_u2 _ _ e, z_u2 _ _ e, es _ (by omega) (by omega) (by omega) (by omega), es _ (by omega) (by omega) (by omega) (by omega), es _ (by omega) (by omega) (by omega) (by omega)]
        exact c6 b (by omega)
  · exact hT.of hnf.2.2.1 h16 (es 0 (by omega) (by omega) (by omega) (by omega)) (es 2 (by omega) (by omega) (by omega) (by omega)) (es 4 (by omega) (by omega) (by omega) (by omega)) (fun k h1 h2 => es k (by omega) (by omega) (by omega) (by omega))
/-- the class's wire -/
theorem CH.wire {B : Nat → Nat} {M s W : Nat} {v vC vT : Vs} (h : CH B M s v) (hC1 : vC.1 1 = nI W) (hW : W ≤ 24) : (tkind B M s ≠ 2 → ∃ v', f_X5_isKnownWire v vC vT = some (nI 0, v') ∧ CF v' (-2) (nI s)) ∧ (tkind B M s = 2 → (nmC B s (tend B M s - s) < W → f_X5_isKnownWire v vC vT = some (nI 1, v) ∧ v.1 9 = nI (nmC B s (tend B M s - s))) ∧ (¬ nmC B s (tend B M s - s) < W → ∃ v', f_X5_isKnownWire v vC vT = some (nI 0, v') ∧ CF v' (-3) (nI s))) := by
  have d7 := h.2.1.2.1
  have hk4 : tkind B M s ≤ 4 := by unfold tkind; (repeat' split) <;> omega
  have hC5 := nmC_le B s (tend B M s - s)
  refine ⟨fun hk => ?_, fun hk => ⟨fun hn => ?_, fun hn => ?_⟩⟩
  · obtain ⟨v', e, C⟩ := h.fail (-2)
    have e' : f_X5_fail v (-nI 2) = some (nI 0, v') := e
    refine ⟨v', ?_, C⟩
    unfold f_X5_isKnownWire
    simp (disch := omega) only [z_gt, z_o1, z_o2, z_o3, z_o4, z_o5, z_o6, z_o7, z_o8, z_o9, z_bn, z_jn, nI_add, z_mul, z_sub, z_div, Nat.not_lt_zero, z_cl, z_le, z_lt, z_eq, z_inb, z_nz, z_isB0, z_notJ, z_notI, z_isB1, z_m1, z_pos, z_pos', z_nlt, z_nle', z_m1le, z_m1a, z_nle, z_sI0, z_sI1, z_sI2, z_sI3, z_sJ0, z_sJ1, z_sJ2, z_sJ3, z_sF0, z_sF1, z_sF2, z_sA0, z_sA1, z_sA2, z_sA3, z_sAA, z_sIA, ↓reduceIte, Nat.reduceEqDiff, Nat.reduceLeDiff, Nat.reduceLT, z_l0, z_l1, z_l2, z_l3, z_l4, z_l5, z_l6, z_l7, z_l8, z_l9, z_l10, z_l11, z_l12, z_l13, z_l14, z_l15, z_l16, z_l17, z_l18, z_l19, z_l20, z_l21, z_l22, z_l23, z_l24, z_l25, z_l26, z_l27, z_l28, z_l32, z_l48, z_l56, z_l57, z_l59, z_l63, z_l64, z_l96, z_l97, z_l122, z_l127, z_l152, z_l158, z_l182, z_l255, z_l256, z_l310, z_l342, z_l406, z_l440, z_l729, z_l800, z_l3960, z_l14336, z_l14592, z_l100000, d7, hk, e']
  · have d9 := h.2.1.2.2.2 hk
    refine ⟨?_, d9⟩
    unfold f_X5_isKnownWire
    simp (disch := omega) only [z_gt, z_o1, z_o2, z_o3, z_o4, z_o5, z_o6, z_o7, z_o8, z_o9, z_bn, z_jn, nI_add, z_mul, z_sub, z_div, Nat.not_lt_zero, z_cl, z_le, z_lt, z_eq, z_inb, z_nz, z_isB0, z_notJ, z_notI, z_isB1, z_m1, z_pos, z_pos', z_nlt, z_nle', z_m1le, z_m1a, z_nle, z_sI0, z_sI1, z_sI2, z_sI3, z_sJ0, z_sJ1, z_sJ2, z_sJ3, z_sF0, z_sF1, z_sF2, z_sA0, z_sA1, z_sA2, z_sA3, z_sAA, z_sIA, ↓reduceIte, Nat.reduceEqDiff, Nat.reduceLeDiff, Nat.reduceLT, z_l0, z_l1, z_l2, z_l3, z_l4, z_l5, z_l6, z_l7, z_l8, z_l9, z_l10, z_l11, z_l12, z_l13, z_l14, z_l15, z_l16, z_l17, z_l18, z_l19, z_l20, z_l21, z_l22, z_l23, z_l24, z_l25, z_l26, z_l27, z_l28, z_l32, z_l48, z_l56, z_l57, z_l59, z_l63, z_l64, z_l96, z_l97, z_l122, z_l127, z_l152, z_l158, z_l182, z_l255, z_l256, z_l310, z_l342, z_l406, z_l440, z_l729, z_l800, z_l3960, z_l14336, z_l14592, z_l100000, d7, hk, d9, hC1, hn]
  · have d9 := h.2.1.2.2.2 hk
    obtain ⟨v', e, C⟩ := h.fail (-3)
    have e' : f_X5_fail v (-nI 3) = some (nI 0, v') := e
    refine ⟨v', ?_, C⟩
    unfold f_X5_isKnownWire
    simp (disch := omega) only [z_gt, z_o1, z_o2, z_o3, z_o4, z_o5, z_o6, z_o7, z_o8, z_o9, z_bn, z_jn, nI_add, z_mul, z_sub, z_div, Nat.not_lt_zero, z_cl, z_le, z_lt, z_eq, z_inb, z_nz, z_isB0, z_notJ, z_notI, z_isB1, z_m1, z_pos, z_pos', z_nlt, z_nle', z_m1le, z_m1a, z_nle, z_sI0, z_sI1, z_sI2, z_sI3, z_sJ0, z_sJ1, z_sJ2, z_sJ3, z_sF0, z_sF1, z_sF2, z_sA0, z_sA1, z_sA2, z_sA3, z_sAA, z_sIA, ↓reduceIte, Nat.reduceEqDiff, Nat.reduceLeDiff, Nat.reduceLT, z_l0, z_l1, z_l2, z_l3, z_l4, z_l5, z_l6, z_l7, z_l8, z_l9, z_l10, z_l11, z_l12, z_l13, z_l14, z_l15, z_l16, z_l17, z_l18, z_l19, z_l20, z_l21, z_l22, z_l23, z_l24, z_l25, z_l26, z_l27, z_l28, z_l32, z_l48, z_l56, z_l57, z_l59, z_l63, z_l64, z_l96, z_l97, z_l122, z_l127, z_l152, z_l158, z_l182, z_l255, z_l256, z_l310, z_l342, z_l406, z_l440, z_l729, z_l800, z_l3960, z_l14336, z_l14592, z_l100000, d7, hk, d9, hC1, hn, e']
