/-! the reference: all wires' values, without and with a fault; questions; what is found -/
theorem g_cleans {v : Vs} {n : Nat} {r : Nat → Int32} (h : MS v n r) (hw : WFc r) {ask : Nat → Nat} (ha : ∀ i, i < NI r → v.2.1 6 i = nI (ask i) ∧ ask i ≤ 2) : ∃ f, f_X8_cleans v = some (sA v 7 f) ∧ ∀ w, w < NW r → f w = nI (good r ask w) := by
  have hn := hw.nf
  have hg : ∀ w, w < NW r → good r ask w ≤ 2 := fun w hw2 => good_2 hw (fun i hi => (ha i hi).2) (w + 1) w (by omega) hw2
  have key : Ok (f_X8_cleans v) (fun v' => ∃ f, v' = sA v 7 f ∧ ∀ w, w < NW r → f w = nI (good r ask w)) := by
    unfold f_X8_cleans
    refine zl2 (I := fun m x v' => ∃ w f, x = nI w ∧ v' = sA v 7 f ∧ w ≤ NW r ∧ m = NW r - w ∧ ∀ j, j < w → f j = nI (good r ask j)) ?_ FU (NW r) _ _ (by unfold FU; omega) ⟨0, v.2.1 7, rfl, (z_sAs v 7).symm, by omega, by omega, fun j hj => by omega⟩
    rintro m x v' self ⟨w, f, rfl, rfl, hle, rfl, hf⟩ ih
    have hm := h.sA 7 f (by decide)
    unfold f_X8_cleans_L2
    refine ok_o1e (g_wires hm hw) ?_
    by_cases hb : NW r ≤ w
    · rw [ift hb (by omega)]
      exact ok_some ⟨f, rfl, fun j hj => hf j (by omega)⟩
    · rw [iff_ hb (by omega)]
      refine ok_o1e (g_inputs hm hw) ?_
      refine ok_j1 (fun t => t = nI (good r ask w)) ?_ ?_
      · rintro t rfl
        refine ok_gd (z_inb (by omega) (by omega)) ?_
        refine ok_bn ?_
        rw [z_sIA, z_sAA, z_sA2, z_cl (by omega), z_l1, nI_add]
        refine ih _ _ _ (by omega) ⟨w + 1, _, rfl, rfl, by omega, rfl, fun j hj => ?_⟩
        by_cases hj2 : j = w
        · rw [z_u1 _ _ hj2, hj2]
        · rw [z_u2 _ _ hj2]
          exact hf j (by omega)
      · intro k hk
        by_cases hi : NI r ≤ w
        · rw [ift hi (by omega)]
          refine ok_o1e (g_gate_clean hm hw hi (by omega) (c := good r ask) (fun j hj => ⟨by rw [z_sA2]; exact hf j hj, hg j (by omega)⟩)) ?_
          exact hk _ (by rw [good_at hw (by omega) (by omega)])
        · rw [iff_ hi (by omega)]
          refine ok_gd (z_inb (by omega) (by omega)) ?_
          refine hk _ ?_
          rw [z_cl (by omega), z_sA3 _ _ _ (by decide), (ha w (by omega)).1, good_in (by omega)]
  obtain ⟨v', e, f, rfl, hf⟩ := key
  exact ⟨f, e, hf⟩
def fI (p : Nat) : Int32 := if p = 0 then im1 else nI (p - 1)
theorem fI_0 : fI 0 = im1 := rfl
theorem fI_s (f : Nat) : fI (f + 1) = nI f := rfl
theorem g_bends {v : Vs} {n : Nat} {r : Nat → Int32} (h : MS v n r) (hw : WFc r) {ask : Nat → Nat} (ha : ∀ i, i < NI r → v.2.1 6 i = nI (ask i) ∧ ask i ≤ 2) (hc : ∀ w, w < NW r → v.2.1 7 w = nI (good r ask w)) {p : Nat} (hp : p ≤ NF r) : ∃ f, f_X8_bends v (fI p) = some (sA v 8 f) ∧ ∀ w, w < NW r → f w = nI (bad r ask p w) := by
  have hn := hw.nf
  have hg : ∀ w, w < NW r → good r ask w ≤ 2 := fun w hw2 => good_2 hw (fun i hi => (ha i hi).2) (w + 1) w (by omega) hw2
  have hbd : ∀ w, w < NW r → bad r ask p w ≤ 2 := fun w hw2 => bad_2 hw (fun i hi => (ha i hi).2) p (w + 1) w (by omega) hw2
  -- the loop, by what kind of fault it is
  have loop : ∀ t5 t8 : Int32, (t5 = nI 0 ∧ p = 0) ∨ (t5 = nI 0 ∧ 1 ≤ p ∧ p - 1 < 2 * NW r) ∨ (t5 = nI 1 ∧ 1 ≤ p ∧ 2 * NW r ≤ p - 1 ∧ t8 = nI (dc (good r ask (ba r (p - 1 - 2 * NW r))) (good r ask (bb r (p - 1 - 2 * NW r))) (if bk r (p - 1 - 2 * NW r) = 0 then 0 else 1))) → Ok (lp (f_X8_bends_L84 (fI p) (nI (NW r)) t5 t8) (fun _ _ => none) FU (nI 0) v) (fun v' => ∃ f, v' = sA v 8 f ∧ ∀ w, w < NW r → f w = nI (bad r ask p w)) := by
    intro t5 t8 hcase
    refine zl2 (I := fun m x v' => ∃ w f, x = nI w ∧ v' = sA v 8 f ∧ w ≤ NW r ∧ m = NW r - w ∧ ∀ j, j < w → f j = nI (bad r ask p j)) ?_ FU (NW r) _ _ (by unfold FU; omega) ⟨0, v.2.1 8, rfl, (z_sAs v 8).symm, by omega, by omega, fun j hj => by omega⟩
    rintro m x v' self ⟨w, f, rfl, rfl, hle, rfl, hf⟩ ih
    have hm := h.sA 8 f (by decide)
    unfold f_X8_bends_L84
    refine ok_o1e (g_wires hm hw) ?_
    by_cases hb : NW r ≤ w
    · rw [ift hb (by omega)]
      exact ok_some ⟨f, rfl, fun j hj => hf j (by omega)⟩
    · rw [iff_ hb (by omega)]
      refine ok_o1e (g_inputs hm hw) ?_
      have fin : ∀ x, x = nI (bad r ask p w) → Ok (self (nI (w + 1)) (sA v 8 (upd f w x))) (fun v' => ∃ f, v' = sA v 8 f ∧ ∀ w, w < NW r → f w = nI (bad r ask p w)) := by
        rintro x rfl
        refine ih _ _ _ (by omega) ⟨w + 1, _, rfl, rfl, by omega, rfl, fun j hj => ?_⟩
        by_cases hj2 : j = w
        · rw [z_u1 _ _ hj2, hj2]
        · rw [z_u2 _ _ hj2]
          exact hf j (by omega)
      have uu : ∀ x y : Int32, upd (upd f w x) w y = upd f w y := fun x y => by
        funext j
        by_cases hj : j = w
        · rw [z_u1 _ _ hj, z_u1 _ _ hj]
        · rw [z_u2 _ _ hj, z_u2 _ _ hj, z_u2 _ _ hj]
      refine ok_j1 (fun t => told r ask p w = none → t = nI (bad r ask p w)) ?_ ?_
      · intro t ht
        refine ok_gd (z_inb (by omega) (by omega)) ?_
        refine ok_bn ?_
        rw [z_sIA, z_sAA, z_sA2, z_cl (by omega)]
        rcases hcase with ⟨rfl, rfl⟩ | ⟨rfl, h1, h2⟩ | ⟨rfl, h1, h2, rfl⟩
        · have e0 : told r ask 0 w = none := rfl
          rw [fI_0]
          simp (disch := omega) only [z_gt, z_o1, z_o2, z_o3, z_o4, z_o5, z_o6, z_o7, z_o8, z_o9, z_bn, z_jn, nI_add, z_mul, z_sub, z_div, Nat.not_lt_zero, z_cl, z_le, z_lt, z_eq, z_inb, z_nz, z_isB0, z_notJ, z_notI, z_isB1, z_m1, z_pos, z_pos', z_nlt, z_nle', z_m1le, z_m1a, z_nle, z_sI0, z_sI1, z_sI2, z_sI3, z_sJ0, z_sJ1, z_sJ2, z_sJ3, z_sF0, z_sF1, z_sF2, z_sA0, z_sA1, z_sA2, z_sA3, z_sAA, z_sIA, ↓reduceIte, Nat.reduceEqDiff, Nat.reduceLeDiff, Nat.reduceLT, z_l0, z_l1, z_l2, z_l3, z_l4, z_l5, z_l6, z_l7, z_l8, z_l9, z_l10, z_l11, z_l12, z_l13, z_l14, z_l15, z_l16, z_l17, z_l18, z_l19, z_l20, z_l21, z_l22, z_l23, z_l24, z_l25, z_l26, z_l27, z_l28, z_l32, z_l48, z_l56, z_l57, z_l59, z_l63, z_l64, z_l96, z_l97, z_l122, z_l127, z_l152, z_l158, z_l182, z_l255, z_l256, z_l310, z_l342, z_l406, z_l440, z_l729, z_l800, z_l3960, z_l14336, z_l14592, z_l100000]
          exact fin _ (ht e0)
        · obtain ⟨q, rfl⟩ : ∃ q, p = q + 1 := ⟨p - 1, by omega⟩
          have e9 : q + 1 - 1 = q := by omega
          rw [e9] at h2
          rw [fI_s]
          by_cases hq : q / 2 = w
          · have e0 : told r ask (q + 1) w = some (q % 2) := by
              unfold told
              rw [if_neg (by omega), e9, if_pos h2, if_pos hq]
            simp (disch := omega) only [z_gt, z_o1, z_o2, z_o3, z_o4, z_o5, z_o6, z_o7, z_o8, z_o9, z_bn, z_jn, nI_add, z_mul, z_sub, z_div, Nat.not_lt_zero, z_cl, z_le, z_lt, z_eq, z_inb, z_nz, z_isB0, z_notJ, z_notI, z_isB1, z_m1, z_pos, z_pos', z_nlt, z_nle', z_m1le, z_m1a, z_nle, z_sI0, z_sI1, z_sI2, z_sI3, z_sJ0, z_sJ1, z_sJ2, z_sJ3, z_sF0, z_sF1, z_sF2, z_sA0, z_sA1, z_sA2, z_sA3, z_sAA, z_sIA, ↓reduceIte, Nat.reduceEqDiff, Nat.reduceLeDiff, Nat.reduceLT, z_l0, z_l1, z_l2, z_l3, z_l4, z_l5, z_l6, z_l7, z_l8, z_l9, z_l10, z_l11, z_l12, z_l13, z_l14, z_l15, z_l16, z_l17, z_l18, z_l19, z_l20, z_l21, z_l22, z_l23, z_l24, z_l25, z_l26, z_l27, z_l28, z_l32, z_l48, z_l56, z_l57, z_l59, z_l63, z_l64, z_l96, z_l97, z_l122, z_l127, z_l152, z_l158, z_l182, z_l255, z_l256, z_l310, z_l342, z_l406, z_l440, z_l729, z_l800, z_l3960, z_l14336, z_l14592, z_l100000, hq]
            rw [uu]
            refine fin _ ?_
            rw [bad_some e0]
            exact congrArg nI (by omega)
          · have e0 : told r ask (q + 1) w = none := by
              unfold told
              rw [if_neg (by omega), e9, if_pos h2, if_neg hq]
            simp (disch := omega) only [z_gt, z_o1, z_o2, z_o3, z_o4, z_o5, z_o6, z_o7, z_o8, z_o9, z_bn, z_jn, nI_add, z_mul, z_sub, z_div, Nat.not_lt_zero, z_cl, z_le, z_lt, z_eq, z_inb, z_nz, z_isB0, z_notJ, z_notI, z_isB1, z_m1, z_pos, z_pos', z_nlt, z_nle', z_m1le, z_m1a, z_nle, z_sI0, z_sI1, z_sI2, z_sI3, z_sJ0, z_sJ1, z_sJ2, z_sJ3, z_sF0, z_sF1, z_sF2, z_sA0, z_sA1, z_sA2, z_sA3, z_sAA, z_sIA, ↓reduceIte, Nat.reduceEqDiff, Nat.reduceLeDiff, Nat.reduceLT, z_l0, z_l1, z_l2, z_l3, z_l4, z_l5, z_l6, z_l7, z_l8, z_l9, z_l10, z_l11, z_l12, z_l13, z_l14, z_l15, z_l16, z_l17, z_l18, z_l19, z_l20, z_l21, z_l22, z_l23, z_l24, z_l25, z_l26, z_l27, z_l28, z_l32, z_l48, z_l56, z_l57, z_l59, z_l63, z_l64, z_l96, z_l97, z_l122, z_l127, z_l152, z_l158, z_l182, z_l255, z_l256, z_l310, z_l342, z_l406, z_l440, z_l729, z_l800, z_l3960, z_l14336, z_l14592, z_l100000, hq]
            exact fin _ (ht e0)
        · obtain ⟨q, rfl⟩ : ∃ q, p = q + 1 := ⟨p - 1, by omega⟩
          have e9 : q + 1 - 1 = q := by omega
          rw [e9] at h2
          rw [fI_s]
          obtain ⟨⟨k1, k2⟩, ⟨a1, a2⟩, b1, b2⟩ := hw.2.2.2.2.2.2.2.2 (q - 2 * NW r) (by omega)
          have hm2 := h.sA 8 (upd f w t) (by decide)
          have ga := (g_get (k := 158 + 3 * (q - 2 * NW r) + 1) hm2 (by omega)).trans (congrArg some a1)
          have gb := (g_get (k := 158 + 3 * (q - 2 * NW r) + 2) hm2 (by omega)).trans (congrArg some b1)
          by_cases hq : w = ba r (q - 2 * NW r) ∨ w = bb r (q - 2 * NW r)
          · have e0 := fin (nI (dc (good r ask (ba r (q - 2 * NW r))) (good r ask (bb r (q - 2 * NW r))) (if bk r (q - 2 * NW r) = 0 then 0 else 1))) (by
              refine congrArg nI (bad_some ?_).symm
              unfold told
              rw [if_neg (by omega), e9, if_neg (by omega), if_pos hq])
            by_cases hqa : w = ba r (q - 2 * NW r)
            · simp (disch := omega) only [z_gt, z_o1, z_o2, z_o3, z_o4, z_o5, z_o6, z_o7, z_o8, z_o9, z_bn, z_jn, nI_add, z_mul, z_sub, z_div, Nat.not_lt_zero, z_cl, z_le, z_lt, z_eq, z_inb, z_nz, z_isB0, z_notJ, z_notI, z_isB1, z_m1, z_pos, z_pos', z_nlt, z_nle', z_m1le, z_m1a, z_nle, z_sI0, z_sI1, z_sI2, z_sI3, z_sJ0, z_sJ1, z_sJ2, z_sJ3, z_sF0, z_sF1, z_sF2, z_sA0, z_sA1, z_sA2, z_sA3, z_sAA, z_sIA, ↓reduceIte, Nat.reduceEqDiff, Nat.reduceLeDiff, Nat.reduceLT, z_l0, z_l1, z_l2, z_l3, z_l4, z_l5, z_l6, z_l7, z_l8, z_l9, z_l10, z_l11, z_l12, z_l13, z_l14, z_l15, z_l16, z_l17, z_l18, z_l19, z_l20, z_l21, z_l22, z_l23, z_l24, z_l25, z_l26, z_l27, z_l28, z_l32, z_l48, z_l56, z_l57, z_l59, z_l63, z_l64, z_l96, z_l97, z_l122, z_l127, z_l152, z_l158, z_l182, z_l255, z_l256, z_l310, z_l342, z_l406, z_l440, z_l729, z_l800, z_l3960, z_l14336, z_l14592, z_l100000, ga, gb, ← hqa, e9]
              rw [uu, hqa]
              rw [hqa] at e0
              exact e0
            · have hqb : w = bb r (q - 2 * NW r) := by omega
              simp (disch := omega) only [z_gt, z_o1, z_o2, z_o3, z_o4, z_o5, z_o6, z_o7, z_o8, z_o9, z_bn, z_jn, nI_add, z_mul, z_sub, z_div, Nat.not_lt_zero, z_cl, z_le, z_lt, z_eq, z_inb, z_nz, z_isB0, z_notJ, z_notI, z_isB1, z_m1, z_pos, z_pos', z_nlt, z_nle', z_m1le, z_m1a, z_nle, z_sI0, z_sI1, z_sI2, z_sI3, z_sJ0, z_sJ1, z_sJ2, z_sJ3, z_sF0, z_sF1, z_sF2, z_sA0, z_sA1, z_sA2, z_sA3, z_sAA, z_sIA, ↓reduceIte, Nat.reduceEqDiff, Nat.reduceLeDiff, Nat.reduceLT, z_l0, z_l1, z_l2, z_l3, z_l4, z_l5, z_l6, z_l7, z_l8, z_l9, z_l10, z_l11, z_l12, z_l13, z_l14, z_l15, z_l16, z_l17, z_l18, z_l19, z_l20, z_l21, z_l22, z_l23, z_l24, z_l25, z_l26, z_l27, z_l28, z_l32, z_l48, z_l56, z_l57, z_l59, z_l63, z_l64, z_l96, z_l97, z_l122, z_l127, z_l152, z_l158, z_l182, z_l255, z_l256, z_l310, z_l342, z_l406, z_l440, z_l729, z_l800, z_l3960, z_l14336, z_l14592, z_l100000, ga, gb, hqa, ← hqb, e9]
              rw [uu, hqb]
              rw [hqb] at e0
              exact e0
          · have e0 : told r ask (q + 1) w = none := by
              unfold told
              rw [if_neg (by omega), e9, if_neg (by omega), if_neg hq]
            have n1 : ¬ w = ba r (q - 2 * NW r) := fun z => hq (Or.inl z)
            have n2 : ¬ w = bb r (q - 2 * NW r) := fun z => hq (Or.inr z)
            simp (disch := omega) only [z_gt, z_o1, z_o2, z_o3, z_o4, z_o5, z_o6, z_o7, z_o8, z_o9, z_bn, z_jn, nI_add, z_mul, z_sub, z_div, Nat.not_lt_zero, z_cl, z_le, z_lt, z_eq, z_inb, z_nz, z_isB0, z_notJ, z_notI, z_isB1, z_m1, z_pos, z_pos', z_nlt, z_nle', z_m1le, z_m1a, z_nle, z_sI0, z_sI1, z_sI2, z_sI3, z_sJ0, z_sJ1, z_sJ2, z_sJ3, z_sF0, z_sF1, z_sF2, z_sA0, z_sA1, z_sA2, z_sA3, z_sAA, z_sIA, ↓reduceIte, Nat.reduceEqDiff, Nat.reduceLeDiff, Nat.reduceLT, z_l0, z_l1, z_l2, z_l3, z_l4, z_l5, z_l6, z_l7, z_l8, z_l9, z_l10, z_l11, z_l12, z_l13, z_l14, z_l15, z_l16, z_l17, z_l18, z_l19, z_l20, z_l21, z_l22, z_l23, z_l24, z_l25, z_l26, z_l27, z_l28, z_l32, z_l48, z_l56, z_l57, z_l59, z_l63, z_l64, z_l96, z_l97, z_l122, z_l127, z_l152, z_l158, z_l182, z_l255, z_l256, z_l310, z_l342, z_l406, z_l440, z_l729, z_l800, z_l3960, z_l14336, z_l14592, z_l100000, ga, gb, n1, n2]
            exact fin _ (ht e0)
      · intro k hk
        by_cases hi : NI r ≤ w
        · rw [ift hi (by omega)]
          refine ok_o1e (g_gate_bent hm hw hi (by omega) (c := bad r ask p) (fun j hj => ⟨by rw [z_sA2]; exact hf j hj, hbd j (by omega)⟩)) ?_
          exact hk _ (fun e0 => by rw [bad_at hw e0 (by omega) (by omega)])
        · rw [iff_ hi (by omega)]
          refine ok_gd (z_inb (by omega) (by omega)) ?_
          refine hk _ (fun e0 => ?_)
          rw [z_cl (by omega), z_sA3 _ _ _ (by decide), (ha w (by omega)).1, bad_in e0 (by omega)]
  have key : Ok (f_X8_bends v (fI p)) (fun v' => ∃ f, v' = sA v 8 f ∧ ∀ w, w < NW r → f w = nI (bad r ask p w)) := by
    unfold f_X8_bends
    refine ok_o1e (g_wires h hw) ?_
    refine ok_o1e (g_wires h hw) ?_
    rcases Nat.eq_zero_or_pos p with h0 | h0
    · subst h0
      have l := loop (nI 0) im1 (Or.inl ⟨rfl, rfl⟩)
      rw [fI_0] at l ⊢
      simp (disch := omega) only [z_gt, z_o1, z_o2, z_o3, z_o4, z_o5, z_o6, z_o7, z_o8, z_o9, z_bn, z_jn, nI_add, z_mul, z_sub, z_div, Nat.not_lt_zero, z_cl, z_le, z_lt, z_eq, z_inb, z_nz, z_isB0, z_notJ, z_notI, z_isB1, z_m1, z_pos, z_pos', z_nlt, z_nle', z_m1le, z_m1a, z_nle, z_sI0, z_sI1, z_sI2, z_sI3, z_sJ0, z_sJ1, z_sJ2, z_sJ3, z_sF0, z_sF1, z_sF2, z_sA0, z_sA1, z_sA2, z_sA3, z_sAA, z_sIA, ↓reduceIte, Nat.reduceEqDiff, Nat.reduceLeDiff, Nat.reduceLT, z_l0, z_l1, z_l2, z_l3, z_l4, z_l5, z_l6, z_l7, z_l8, z_l9, z_l10, z_l11, z_l12, z_l13, z_l14, z_l15, z_l16, z_l17, z_l18, z_l19, z_l20, z_l21, z_l22, z_l23, z_l24, z_l25, z_l26, z_l27, z_l28, z_l32, z_l48, z_l56, z_l57, z_l59, z_l63, z_l64, z_l96, z_l97, z_l122, z_l127, z_l152, z_l158, z_l182, z_l255, z_l256, z_l310, z_l342, z_l406, z_l440, z_l729, z_l800, z_l3960, z_l14336, z_l14592, z_l100000]
      exact l
    · obtain ⟨q, rfl⟩ : ∃ q, p = q + 1 := ⟨p - 1, by omega⟩
      have e9 : q + 1 - 1 = q := by omega
      by_cases h2 : q < 2 * NW r
      · have l := loop (nI 0) im1 (Or.inr (Or.inl ⟨rfl, by omega, by omega⟩))
        rw [fI_s] at l ⊢
        simp (disch := omega) only [z_gt, z_o1, z_o2, z_o3, z_o4, z_o5, z_o6, z_o7, z_o8, z_o9, z_bn, z_jn, nI_add, z_mul, z_sub, z_div, Nat.not_lt_zero, z_cl, z_le, z_lt, z_eq, z_inb, z_nz, z_isB0, z_notJ, z_notI, z_isB1, z_m1, z_pos, z_pos', z_nlt, z_nle', z_m1le, z_m1a, z_nle, z_sI0, z_sI1, z_sI2, z_sI3, z_sJ0, z_sJ1, z_sJ2, z_sJ3, z_sF0, z_sF1, z_sF2, z_sA0, z_sA1, z_sA2, z_sA3, z_sAA, z_sIA, ↓reduceIte, Nat.reduceEqDiff, Nat.reduceLeDiff, Nat.reduceLT, z_l0, z_l1, z_l2, z_l3, z_l4, z_l5, z_l6, z_l7, z_l8, z_l9, z_l10, z_l11, z_l12, z_l13, z_l14, z_l15, z_l16, z_l17, z_l18, z_l19, z_l20, z_l21, z_l22, z_l23, z_l24, z_l25, z_l26, z_l27, z_l28, z_l32, z_l48, z_l56, z_l57, z_l59, z_l63, z_l64, z_l96, z_l97, z_l122, z_l127, z_l152, z_l158, z_l182, z_l255, z_l256, z_l310, z_l342, z_l406, z_l440, z_l729, z_l800, z_l3960, z_l14336, z_l14592, z_l100000, h2]
        exact l
      · obtain ⟨⟨k1, k2⟩, ⟨a1, a2⟩, b1, b2⟩ := hw.2.2.2.2.2.2.2.2 (q - 2 * NW r) (by omega)
        have gk := (g_get (k := 158 + 3 * (q - 2 * NW r)) h (by omega)).trans (congrArg some k1)
        have ga := (g_get (k := 158 + 3 * (q - 2 * NW r) + 1) h (by omega)).trans (congrArg some a1)
        have gb := (g_get (k := 158 + 3 * (q - 2 * NW r) + 2) h (by omega)).trans (congrArg some b1)
        have l := fun t8 e => loop (nI 1) t8 (Or.inr (Or.inr ⟨rfl, by omega, by omega, e⟩))
        rw [e9] at l
        rw [fI_s] at l ⊢
        have d0 := g_decided (hg _ a2) (hg _ b2) (d := 0) (by omega)
        have d1 := g_decided (hg _ a2) (hg _ b2) (d := 1) (by omega)
        by_cases hk : bk r (q - 2 * NW r) = 0
        · rw [if_pos hk] at l
          simp (disch := omega) only [z_gt, z_o1, z_o2, z_o3, z_o4, z_o5, z_o6, z_o7, z_o8, z_o9, z_bn, z_jn, nI_add, z_mul, z_sub, z_div, Nat.not_lt_zero, z_cl, z_le, z_lt, z_eq, z_inb, z_nz, z_isB0, z_notJ, z_notI, z_isB1, z_m1, z_pos, z_pos', z_nlt, z_nle', z_m1le, z_m1a, z_nle, z_sI0, z_sI1, z_sI2, z_sI3, z_sJ0, z_sJ1, z_sJ2, z_sJ3, z_sF0, z_sF1, z_sF2, z_sA0, z_sA1, z_sA2, z_sA3, z_sAA, z_sIA, ↓reduceIte, Nat.reduceEqDiff, Nat.reduceLeDiff, Nat.reduceLT, z_l0, z_l1, z_l2, z_l3, z_l4, z_l5, z_l6, z_l7, z_l8, z_l9, z_l10, z_l11, z_l12, z_l13, z_l14, z_l15, z_l16, z_l17, z_l18, z_l19, z_l20, z_l21, z_l22, z_l23, z_l24, z_l25, z_l26, z_l27, z_l28, z_l32, z_l48, z_l56, z_l57, z_l59, z_l63, z_l64, z_l96, z_l97, z_l122, z_l127, z_l152, z_l158, z_l182, z_l255, z_l256, z_l310, z_l342, z_l406, z_l440, z_l729, z_l800, z_l3960, z_l14336, z_l14592, z_l100000, h2, gk, ga, gb, hc _ a2, hc _ b2, hk, d0]
          exact l _ rfl
        · rw [if_neg hk] at l
          simp (disch := omega) only [z_gt, z_o1, z_o2, z_o3, z_o4, z_o5, z_o6, z_o7, z_o8, z_o9, z_bn, z_jn, nI_add, z_mul, z_sub, z_div, Nat.not_lt_zero, z_cl, z_le, z_lt, z_eq, z_inb, z_nz, z_isB0, z_notJ, z_notI, z_isB1, z_m1, z_pos, z_pos', z_nlt, z_nle', z_m1le, z_m1a, z_nle, z_sI0, z_sI1, z_sI2, z_sI3, z_sJ0, z_sJ1, z_sJ2, z_sJ3, z_sF0, z_sF1, z_sF2, z_sA0, z_sA1, z_sA2, z_sA3, z_sAA, z_sIA, ↓reduceIte, Nat.reduceEqDiff, Nat.reduceLeDiff, Nat.reduceLT, z_l0, z_l1, z_l2, z_l3, z_l4, z_l5, z_l6, z_l7, z_l8, z_l9, z_l10, z_l11, z_l12, z_l13, z_l14, z_l15, z_l16, z_l17, z_l18, z_l19, z_l20, z_l21, z_l22, z_l23, z_l24, z_l25, z_l26, z_l27, z_l28, z_l32, z_l48, z_l56, z_l57, z_l59, z_l63, z_l64, z_l96, z_l97, z_l122, z_l127, z_l152, z_l158, z_l182, z_l255, z_l256, z_l310, z_l342, z_l406, z_l440, z_l729, z_l800, z_l3960, z_l14336, z_l14592, z_l100000, h2, gk, ga, gb, hc _ a2, hc _ b2, hk, d1]
          exact l _ rfl
  obtain ⟨v', e, f, rfl, hf⟩ := key
  exact ⟨f, e, hf⟩
