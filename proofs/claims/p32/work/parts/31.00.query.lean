/-! what the class answers, in words of the setup -/
theorem u_value {r : Nat → Int32} (hw : WFc r) (ht : WFt r) {vF vC vT vRT vG vB vRF : Vs} (hC : RC r vC) (hT : RT r vT) (hF : FI r vF vRT vG vRF) {t w : Nat} (h1 : t < NT r) (h2 : w < NW r) :
    ∃ vF' vRT' vG' vB', f_X7_value vF vC vT 342 vRT vG vB (nI t) (nI w) = some (0, nI (good r (tv r t) w), vF', vRT', vG', vB') ∧ FI r vF' vRT' vG' vRF := by
  have hn := hw.nf
  have h16 := ht.1.2
  obtain ⟨vF', vRT', vG', vB', e, hF', hTR, -⟩ := y_refreshTest hw ht (vB := vB) hC hT hF
  have hl := x_lane (by omega) (by omega) (hTR.2 w h2) (t := t) (good_2 hw (fun i hi => tq_2 ht t i hi) (w + 1) w (by omega) h2)
  rw [tq_t h1] at hl
  refine ⟨vF', vRT', vG', vB', ?_, hF'⟩
  unfold f_X7_value
  simp (disch := omega) only [z_gt, z_o1, z_o2, z_o3, z_o4, z_o5, z_o6, z_o7, z_o8, z_o9, z_bn, z_jn, nI_add, z_mul, z_sub, z_div, Nat.not_lt_zero, z_cl, z_le, z_lt, z_eq, z_inb, z_nz, z_isB0, z_notJ, z_notI, z_isB1, z_m1, z_pos, z_pos', z_nlt, z_nle', z_m1le, z_m1a, z_nle, z_sI0, z_sI1, z_sI2, z_sI3, z_sJ0, z_sJ1, z_sJ2, z_sJ3, z_sF0, z_sF1, z_sF2, z_sA0, z_sA1, z_sA2, z_sA3, z_sAA, z_sIA, ↓reduceIte, Nat.reduceEqDiff, Nat.reduceLeDiff, Nat.reduceLT, z_l0, z_l1, z_l2, z_l3, z_l4, z_l5, z_l6, z_l7, z_l8, z_l9, z_l10, z_l11, z_l12, z_l13, z_l14, z_l15, z_l16, z_l17, z_l18, z_l19, z_l20, z_l21, z_l22, z_l23, z_l24, z_l25, z_l26, z_l27, z_l28, z_l32, z_l48, z_l56, z_l57, z_l59, z_l63, z_l64, z_l96, z_l97, z_l122, z_l127, z_l152, z_l158, z_l182, z_l255, z_l256, z_l310, z_l342, z_l406, z_l440, z_l729, z_l800, z_l3960, z_l14336, z_l14592, z_l100000, x_test_y ht hT h1, x_wire_y hw hC h2, e, hl]
theorem u_faulty {r : Nat → Int32} (hw : WFc r) (ht : WFt r) {vF vC vT vRT vG vB vRF : Vs} (hC : RC r vC) (hT : RT r vT) (hF : FI r vF vRT vG vRF) {t f w : Nat} (h1 : t < NT r) (h2 : f < NF r) (h3 : w < NW r) :
    ∃ vF' vRT' vG' vB', f_X7_faulty vF vC vT 342 vRT vG vB (nI t) (nI f) (nI w) = some (0, nI (bad r (tv r t) (f + 1) w), vF', vRT', vG', vB') ∧ FI r vF' vRT' vG' vRF := by
  have hn := hw.nf
  have h16 := ht.1.2
  obtain ⟨vF', vRT', vG', vB', e, hF', hTR, -⟩ := y_refreshTest hw ht (vB := vB) hC hT hF
  obtain ⟨vb, eb, -, -, hb⟩ := x_runFault hw hC (vL := vB') (fun l i hi => tq_2 ht l i hi) hTR.2 h2
  have hl := x_lane (by omega) (by omega) (hb w h3) (t := t) (bad_2 hw (fun i hi => tq_2 ht t i hi) (f + 1) (w + 1) w (by omega) h3)
  rw [tq_t h1] at hl
  refine ⟨vF', vRT', vG', vb, ?_, hF'⟩
  unfold f_X7_faulty
  simp (disch := omega) only [z_gt, z_o1, z_o2, z_o3, z_o4, z_o5, z_o6, z_o7, z_o8, z_o9, z_bn, z_jn, nI_add, z_mul, z_sub, z_div, Nat.not_lt_zero, z_cl, z_le, z_lt, z_eq, z_inb, z_nz, z_isB0, z_notJ, z_notI, z_isB1, z_m1, z_pos, z_pos', z_nlt, z_nle', z_m1le, z_m1a, z_nle, z_sI0, z_sI1, z_sI2, z_sI3, z_sJ0, z_sJ1, z_sJ2, z_sJ3, z_sF0, z_sF1, z_sF2, z_sA0, z_sA1, z_sA2, z_sA3, z_sAA, z_sIA, ↓reduceIte, Nat.reduceEqDiff, Nat.reduceLeDiff, Nat.reduceLT, z_l0, z_l1, z_l2, z_l3, z_l4, z_l5, z_l6, z_l7, z_l8, z_l9, z_l10, z_l11, z_l12, z_l13, z_l14, z_l15, z_l16, z_l17, z_l18, z_l19, z_l20, z_l21, z_l22, z_l23, z_l24, z_l25, z_l26, z_l27, z_l28, z_l32, z_l48, z_l56, z_l57, z_l59, z_l63, z_l64, z_l96, z_l97, z_l122, z_l127, z_l152, z_l158, z_l182, z_l255, z_l256, z_l310, z_l342, z_l406, z_l440, z_l729, z_l800, z_l3960, z_l14336, z_l14592, z_l100000, x_test_y ht hT h1, x_fault_y hw hC h2, x_wire_y hw hC h3, e, eb, hl]
theorem u_finds {r : Nat → Int32} (hw : WFc r) (ht : WFt r) {vF vC vT vRT vG vB vRF : Vs} (hC : RC r vC) (hT : RT r vT) (hF : FI r vF vRT vG vRF) {t f : Nat} (h1 : t < NT r) (h2 : f < NF r) :
    ∃ vF' vRT' vG' vB', f_X7_finds vF vC vT 342 vRT vG vB (nI t) (nI f) = some (0, nI (FNo r (tv r t) f), vF', vRT', vG', vB') ∧ FI r vF' vRT' vG' vRF := by
  have hn := hw.nf
  have h16 := ht.1.2
  obtain ⟨vF', vRT', vG', vB', e, hF', hTR, -⟩ := y_refreshTest hw ht (vB := vB) hC hT hF
  obtain ⟨ya, ea, ha⟩ := x_apart0 hw (W := 1) (Or.inl rfl) hC hF'.2.2.1 (fun l i hi => tq_2 ht l i hi) (k := 0) (by omega) hTR.1 h2
  obtain ⟨yb, eb, hb⟩ := x_blurred hw hC hF'.2.2.1 (fun l i hi => tq_2 ht l i hi) hTR.1 h2
  have ha := ha t (by omega)
  have hb := hb t (by omega)
  rw [tq_t h1] at ha hb
  have h9 := FNo_2 r (tv r t) f
  have his := foundN_is (good r (tv r t)) (bad r (tv r t) (f + 1)) r (NO r)
  have hFN : FNo r (tv r t) f = foundN (good r (tv r t)) (bad r (tv r t) (f + 1)) r (NO r) := rfl
  rw [← hFN] at his
  refine ⟨vF', vRT', vG', vB', ?_, hF'⟩
  unfold f_X7_finds
  rw [show (342 : Nat) = 342 * 1 from rfl] at e ⊢
  have z1 : (-1 : Int32) = im1 := rfl
  rw [z1] at ea
  by_cases q2 : FNo r (tv r t) f = 2
  · have hA : f_X7_hasLane ya (nI t) = some (nI 1) := x_hl1 (by omega) (by rw [ha]; simp [FB, q2])
    rw [q2]
    simp (disch := omega) only [z_gt, z_o1, z_o2, z_o3, z_o4, z_o5, z_o6, z_o7, z_o8, z_o9, z_bn, z_jn, nI_add, z_mul, z_sub, z_div, Nat.not_lt_zero, z_cl, z_le, z_lt, z_eq, z_inb, z_nz, z_isB0, z_notJ, z_notI, z_isB1, z_m1, z_pos, z_pos', z_nlt, z_nle', z_m1le, z_m1a, z_nle, z_sI0, z_sI1, z_sI2, z_sI3, z_sJ0, z_sJ1, z_sJ2, z_sJ3, z_sF0, z_sF1, z_sF2, z_sA0, z_sA1, z_sA2, z_sA3, z_sAA, z_sIA, ↓reduceIte, Nat.reduceEqDiff, Nat.reduceLeDiff, Nat.reduceLT, z_l0, z_l1, z_l2, z_l3, z_l4, z_l5, z_l6, z_l7, z_l8, z_l9, z_l10, z_l11, z_l12, z_l13, z_l14, z_l15, z_l16, z_l17, z_l18, z_l19, z_l20, z_l21, z_l22, z_l23, z_l24, z_l25, z_l26, z_l27, z_l28, z_l32, z_l48, z_l56, z_l57, z_l59, z_l63, z_l64, z_l96, z_l97, z_l122, z_l127, z_l152, z_l158, z_l182, z_l255, z_l256, z_l310, z_l342, z_l406, z_l440, z_l729, z_l800, z_l3960, z_l14336, z_l14592, z_l100000, x_test_y ht hT h1, x_fault_y hw hC h2, e, ea, hA]
  · have hA : f_X7_hasLane ya (nI t) = some (nI 0) := x_hl0 (by omega) (by rw [ha]; simp [FB, q2])
    have nA : ¬ apartN (good r (tv r t)) (bad r (tv r t) (f + 1)) r (NO r) := fun z => q2 (his.1.mpr z)
    rw [show (342 : Nat) = 342 * 1 from rfl] at eb
    by_cases q1 : FNo r (tv r t) f = 1
    · have hB : f_X7_hasLane yb (nI t) = some (nI 1) := x_hl1 (by omega) (hb.mpr (his.2.mp q1).2)
      rw [q1]
      simp (disch := omega) only [z_gt, z_o1, z_o2, z_o3, z_o4, z_o5, z_o6, z_o7, z_o8, z_o9, z_bn, z_jn, nI_add, z_mul, z_sub, z_div, Nat.not_lt_zero, z_cl, z_le, z_lt, z_eq, z_inb, z_nz, z_isB0, z_notJ, z_notI, z_isB1, z_m1, z_pos, z_pos', z_nlt, z_nle', z_m1le, z_m1a, z_nle, z_sI0, z_sI1, z_sI2, z_sI3, z_sJ0, z_sJ1, z_sJ2, z_sJ3, z_sF0, z_sF1, z_sF2, z_sA0, z_sA1, z_sA2, z_sA3, z_sAA, z_sIA, ↓reduceIte, Nat.reduceEqDiff, Nat.reduceLeDiff, Nat.reduceLT, z_l0, z_l1, z_l2, z_l3, z_l4, z_l5, z_l6, z_l7, z_l8, z_l9, z_l10, z_l11, z_l12, z_l13, z_l14, z_l15, z_l16, z_l17, z_l18, z_l19, z_l20, z_l21, z_l22, z_l23, z_l24, z_l25, z_l26, z_l27, z_l28, z_l32, z_l48, z_l56, z_l57, z_l59, z_l63, z_l64, z_l96, z_l97, z_l122, z_l127, z_l152, z_l158, z_l182, z_l255, z_l256, z_l310, z_l342, z_l406, z_l440, z_l729, z_l800, z_l3960, z_l14336, z_l14592, z_l100000, x_test_y ht hT h1, x_fault_y hw hC h2, e, ea, hA, eb, hB]
    · have hB : f_X7_hasLane yb (nI t) = some (nI 0) := x_hl0 (by omega) (by
        cases hq : bJ yb t with
        | false => rfl
        | true => exact absurd (his.2.mpr ⟨nA, hb.mp hq⟩) q1)
      have q0 : FNo r (tv r t) f = 0 := by omega
      rw [q0]
      simp (disch := omega) only [z_gt, z_o1, z_o2, z_o3, z_o4, z_o5, z_o6, z_o7, z_o8, z_o9, z_bn, z_jn, nI_add, z_mul, z_sub, z_div, Nat.not_lt_zero, z_cl, z_le, z_lt, z_eq, z_inb, z_nz, z_isB0, z_notJ, z_notI, z_isB1, z_m1, z_pos, z_pos', z_nlt, z_nle', z_m1le, z_m1a, z_nle, z_sI0, z_sI1, z_sI2, z_sI3, z_sJ0, z_sJ1, z_sJ2, z_sJ3, z_sF0, z_sF1, z_sF2, z_sA0, z_sA1, z_sA2, z_sA3, z_sAA, z_sIA, ↓reduceIte, Nat.reduceEqDiff, Nat.reduceLeDiff, Nat.reduceLT, z_l0, z_l1, z_l2, z_l3, z_l4, z_l5, z_l6, z_l7, z_l8, z_l9, z_l10, z_l11, z_l12, z_l13, z_l14, z_l15, z_l16, z_l17, z_l18, z_l19, z_l20, z_l21, z_l22, z_l23, z_l24, z_l25, z_l26, z_l27, z_l28, z_l32, z_l48, z_l56, z_l57, z_l59, z_l63, z_l64, z_l96, z_l97, z_l122, z_l127, z_l152, z_l158, z_l182, z_l255, z_l256, z_l310, z_l342, z_l406, z_l440, z_l729, z_l800, z_l3960, z_l14336, z_l14592, z_l100000, x_test_y ht hT h1, x_fault_y hw hC h2, e, ea, hA, eb, hB]
theorem u_worth {r : Nat → Int32} (hw : WFc r) (ht : WFt r) {vF vC vT vRT vG vB vRF : Vs} (hC : RC r vC) (hT : RT r vT) (hF : FI r vF vRT vG vRF) {t : Nat} (h1 : t < NT r) :
    ∃ vF' vRT' vG' vB', f_X7_worth vF vC vT 342 vRT vG vB (nI t) = some (0, nI (cnt (FD r t) (NF r)), vF', vRT', vG', vB') ∧ FI r vF' vRT' vG' vRF := by
  have hn := hw.nf
  have h16 := ht.1.2
  obtain ⟨all, vF', vRT', vG', vB', e, hF', hTR, hb, -⟩ := y_foundTests hw ht (vB := vB) hC hT hF
  have hc : cnt (fun k => bJ (vF'.2.2 9 t) k) 64 = cnt (FD r t) (NF r) := by
    rw [cnt_cut (m := NF r) 64 (by omega) (fun k h2 h3 => by rw [hb t k h1 h3]; simp; omega)]
    exact cnt_cong _ (fun k hk => by rw [hb t k h1 (by omega)]; simp [hk])
  have hbc := x_bitCount (vF'.2.2 9 t)
  rw [hc] at hbc
  refine ⟨vF', vRT', vG', vB', ?_, hF'⟩
  unfold f_X7_worth
  simp (disch := omega) only [z_gt, z_o1, z_o2, z_o3, z_o4, z_o5, z_o6, z_o7, z_o8, z_o9, z_bn, z_jn, nI_add, z_mul, z_sub, z_div, Nat.not_lt_zero, z_cl, z_le, z_lt, z_eq, z_inb, z_nz, z_isB0, z_notJ, z_notI, z_isB1, z_m1, z_pos, z_pos', z_nlt, z_nle', z_m1le, z_m1a, z_nle, z_sI0, z_sI1, z_sI2, z_sI3, z_sJ0, z_sJ1, z_sJ2, z_sJ3, z_sF0, z_sF1, z_sF2, z_sA0, z_sA1, z_sA2, z_sA3, z_sAA, z_sIA, ↓reduceIte, Nat.reduceEqDiff, Nat.reduceLeDiff, Nat.reduceLT, z_l0, z_l1, z_l2, z_l3, z_l4, z_l5, z_l6, z_l7, z_l8, z_l9, z_l10, z_l11, z_l12, z_l13, z_l14, z_l15, z_l16, z_l17, z_l18, z_l19, z_l20, z_l21, z_l22, z_l23, z_l24, z_l25, z_l26, z_l27, z_l28, z_l32, z_l48, z_l56, z_l57, z_l59, z_l63, z_l64, z_l96, z_l97, z_l122, z_l127, z_l152, z_l158, z_l182, z_l255, z_l256, z_l310, z_l342, z_l406, z_l440, z_l729, z_l800, z_l3960, z_l14336, z_l14592, z_l100000, x_test_y ht hT h1, e, hbc]
theorem u_testFor {r : Nat → Int32} (hw : WFc r) {vF vC vRT vG vRF vGF vBF : Vs} (hC : RC r vC) (hF : FI r vF vRT vG vRF) {f : Nat} (h1 : f < NF r) :
    ∃ vF' vRF' vGF' vBF', f_X7_testFor vF vC 1368 vRF vGF vBF (nI f) = some (0, fstI (DF r (f + 1) 0) (2 ^ NI r), vF', vRF', vGF', vBF') ∧ FI r vF' vRT vG vRF' := by
  have hn := hw.nf
  obtain ⟨vF', vRF', vGF', vBF', e, hF', hFR, -⟩ := y_refreshFull hw (vGF := vGF) (vBF := vBF) hC hF
  refine ⟨vF', vRF', vGF', vBF', ?_, hF'⟩
  unfold f_X7_testFor
  simp (disch := omega) only [z_gt, z_o1, z_o2, z_o3, z_o4, z_o5, z_o6, z_o7, z_o8, z_o9, z_bn, z_jn, nI_add, z_mul, z_sub, z_div, Nat.not_lt_zero, z_cl, z_le, z_lt, z_eq, z_inb, z_nz, z_isB0, z_notJ, z_notI, z_isB1, z_m1, z_pos, z_pos', z_nlt, z_nle', z_m1le, z_m1a, z_nle, z_sI0, z_sI1, z_sI2, z_sI3, z_sJ0, z_sJ1, z_sJ2, z_sJ3, z_sF0, z_sF1, z_sF2, z_sA0, z_sA1, z_sA2, z_sA3, z_sAA, z_sIA, ↓reduceIte, Nat.reduceEqDiff, Nat.reduceLeDiff, Nat.reduceLT, z_l0, z_l1, z_l2, z_l3, z_l4, z_l5, z_l6, z_l7, z_l8, z_l9, z_l10, z_l11, z_l12, z_l13, z_l14, z_l15, z_l16, z_l17, z_l18, z_l19, z_l20, z_l21, z_l22, z_l23, z_l24, z_l25, z_l26, z_l27, z_l28, z_l32, z_l48, z_l56, z_l57, z_l59, z_l63, z_l64, z_l96, z_l97, z_l122, z_l127, z_l152, z_l158, z_l182, z_l255, z_l256, z_l310, z_l342, z_l406, z_l440, z_l729, z_l800, z_l3960, z_l14336, z_l14592, z_l100000, x_fault_y hw hC h1, e, y_first0 hw hC hF'.2.2.2.1 hFR h1]
theorem u_alike {r : Nat → Int32} (hw : WFc r) {vF vC vRT vG vRF vGF vBF : Vs} (hC : RC r vC) (hF : FI r vF vRT vG vRF) {f : Nat} (h1 : f < NF r) :
    ∃ vF' vRF' vGF' vBF', f_X7_alike vF vC 1368 vRF vGF vBF (nI f) = some (0, nI (fal r f), vF', vRF', vGF', vBF') ∧ FI r vF' vRT vG vRF' := by
  have hn := hw.nf
  obtain ⟨vF', vRF', vGF', vBF', e, hF', hFR, -⟩ := y_refreshFull hw (vGF := vGF) (vBF := vBF) hC hF
  refine ⟨vF', vRF', vGF', vBF', ?_, hF'⟩
  unfold f_X7_alike
  simp (disch := omega) only [z_gt, z_o1, z_o2, z_o3, z_o4, z_o5, z_o6, z_o7, z_o8, z_o9, z_bn, z_jn, nI_add, z_mul, z_sub, z_div, Nat.not_lt_zero, z_cl, z_le, z_lt, z_eq, z_inb, z_nz, z_isB0, z_notJ, z_notI, z_isB1, z_m1, z_pos, z_pos', z_nlt, z_nle', z_m1le, z_m1a, z_nle, z_sI0, z_sI1, z_sI2, z_sI3, z_sJ0, z_sJ1, z_sJ2, z_sJ3, z_sF0, z_sF1, z_sF2, z_sA0, z_sA1, z_sA2, z_sA3, z_sAA, z_sIA, ↓reduceIte, Nat.reduceEqDiff, Nat.reduceLeDiff, Nat.reduceLT, z_l0, z_l1, z_l2, z_l3, z_l4, z_l5, z_l6, z_l7, z_l8, z_l9, z_l10, z_l11, z_l12, z_l13, z_l14, z_l15, z_l16, z_l17, z_l18, z_l19, z_l20, z_l21, z_l22, z_l23, z_l24, z_l25, z_l26, z_l27, z_l28, z_l32, z_l48, z_l56, z_l57, z_l59, z_l63, z_l64, z_l96, z_l97, z_l122, z_l127, z_l152, z_l158, z_l182, z_l255, z_l256, z_l310, z_l342, z_l406, z_l440, z_l729, z_l800, z_l3960, z_l14336, z_l14592, z_l100000, x_fault_y hw hC h1, e, x_firstAlike hw hC hF'.2.2.2.1 hFR h1]
theorem u_classes {r : Nat → Int32} (hw : WFc r) {vF vC vRT vG vRF vGF vBF : Vs} (hC : RC r vC) (hF : FI r vF vRT vG vRF) :
    ∃ vF' vRF' vGF' vBF', f_X7_classes vF vC 1368 vRF vGF vBF = some (nI (cnt (CB r) (NF r)), vF', vRF', vGF', vBF') ∧ FI r vF' vRT vG vRF' := by
  have hn := hw.nf
  obtain ⟨vF', vRF', vGF', vBF', e, hF', hFR, -⟩ := y_refreshFull hw (vGF := vGF) (vBF := vBF) hC hF
  refine ⟨vF', vRF', vGF', vBF', ok_get ?_, hF'⟩
  unfold f_X7_classes
  rw [e, z_o4]
  refine ok_o1e (x_faultCount hC) ?_
  refine zl2 (I := fun m x y => ∃ f, x = nI (cnt (CB r) f) ∧ y = nI f ∧ f ≤ NF r ∧ m = NF r - f) ?_ FU (NF r) _ _ (by unfold FU; omega) ⟨0, rfl, rfl, by omega, by omega⟩
  rintro m x y self ⟨f, rfl, rfl, hle, rfl⟩ ih
  unfold f_X7_classes_L19
  by_cases hb : NF r ≤ f
  · rw [ift hb (by omega)]
    have e : f = NF r := by omega
    subst e
    exact ok_some rfl
  · rw [iff_ hb (by omega)]
    have hc := cnt_le (CB r) f
    have hl := fal_le r f
    have ec : cnt (CB r) (f + 1) = cnt (CB r) f + (if CB r f then 1 else 0) := rfl
    have ih' := ih (NF r - (f + 1)) (nI (cnt (CB r) (f + 1))) (nI (f + 1)) (by omega) ⟨f + 1, rfl, rfl, by omega, rfl⟩
    rw [ec] at ih'
    refine ok_o1e (x_firstAlike hw hC hF'.2.2.2.1 hFR (by omega)) ?_
    by_cases hq : fal r f = f
    · have hd : CB r f = true := by simp [CB, hq]
      rw [hd, if_pos rfl] at ih'
      simp (disch := omega) only [z_gt, z_o1, z_o2, z_o3, z_o4, z_o5, z_o6, z_o7, z_o8, z_o9, z_bn, z_jn, nI_add, z_mul, z_sub, z_div, Nat.not_lt_zero, z_cl, z_le, z_lt, z_eq, z_inb, z_nz, z_isB0, z_notJ, z_notI, z_isB1, z_m1, z_pos, z_pos', z_nlt, z_nle', z_m1le, z_m1a, z_nle, z_sI0, z_sI1, z_sI2, z_sI3, z_sJ0, z_sJ1, z_sJ2, z_sJ3, z_sF0, z_sF1, z_sF2, z_sA0, z_sA1, z_sA2, z_sA3, z_sAA, z_sIA, ↓reduceIte, Nat.reduceEqDiff, Nat.reduceLeDiff, Nat.reduceLT, z_l0, z_l1, z_l2, z_l3, z_l4, z_l5, z_l6, z_l7, z_l8, z_l9, z_l10, z_l11, z_l12, z_l13, z_l14, z_l15, z_l16, z_l17, z_l18, z_l19, z_l20, z_l21, z_l22, z_l23, z_l24, z_l25, z_l26, z_l27, z_l28, z_l32, z_l48, z_l56, z_l57, z_l59, z_l63, z_l64, z_l96, z_l97, z_l122, z_l127, z_l152, z_l158, z_l182, z_l255, z_l256, z_l310, z_l342, z_l406, z_l440, z_l729, z_l800, z_l3960, z_l14336, z_l14592, z_l100000, hq]
      exact ih'
    · have hd : CB r f = false := by simp [CB, hq]
      rw [hd, if_neg (by decide)] at ih'
      simp (disch := omega) only [z_gt, z_o1, z_o2, z_o3, z_o4, z_o5, z_o6, z_o7, z_o8, z_o9, z_bn, z_jn, nI_add, z_mul, z_sub, z_div, Nat.not_lt_zero, z_cl, z_le, z_lt, z_eq, z_inb, z_nz, z_isB0, z_notJ, z_notI, z_isB1, z_m1, z_pos, z_pos', z_nlt, z_nle', z_m1le, z_m1a, z_nle, z_sI0, z_sI1, z_sI2, z_sI3, z_sJ0, z_sJ1, z_sJ2, z_sJ3, z_sF0, z_sF1, z_sF2, z_sA0, z_sA1, z_sA2, z_sA3, z_sAA, z_sIA, ↓reduceIte, Nat.reduceEqDiff, Nat.reduceLeDiff, Nat.reduceLT, z_l0, z_l1, z_l2, z_l3, z_l4, z_l5, z_l6, z_l7, z_l8, z_l9, z_l10, z_l11, z_l12, z_l13, z_l14, z_l15, z_l16, z_l17, z_l18, z_l19, z_l20, z_l21, z_l22, z_l23, z_l24, z_l25, z_l26, z_l27, z_l28, z_l32, z_l48, z_l56, z_l57, z_l59, z_l63, z_l64, z_l96, z_l97, z_l122, z_l127, z_l152, z_l158, z_l182, z_l255, z_l256, z_l310, z_l342, z_l406, z_l440, z_l729, z_l800, z_l3960, z_l14336, z_l14592, z_l100000, hq]
      exact ih'
