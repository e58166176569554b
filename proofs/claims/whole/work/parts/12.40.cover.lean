/-! coverage -/
set_option maxRecDepth 100000 in
theorem cov_ok : ∀ a, a < 57 → ∀ b, b < 57 → 0 < b → dOK (FP.ddiv (FP.i2d (nI a)) (FP.i2d (nI b))) = true := by decide +kernel
theorem FM_le (r : Nat → Int32) : FM r ≤ NF r := cnt_le _ _
theorem q_coverage {r : Nat → Int32} (hw : WFc r) (ht : WFt r) {vF vC vT vRT vG vB vRF vGF vBF vM : Vs} {n : Nat} (hC : RC r vC) (hT : RT r vT) (hF : FI r vF vRT vG vRF) (hM : MS vM n r) :
    ∃ x vF' vRT' vG' vB' vRF' vGF' vBF' vM', f_X7_coverage vF vC vT 342 vRT vG vB 1368 vRF vGF vBF = some (x, vF', vRT', vG', vB', vRF', vGF', vBF') ∧ FI r vF' vRT' vG' vRF' ∧ f_X8_coverage vM = some (x, vM') ∧ QM vM vM' := by
  have hn := hw.nf
  have h16 := ht.1.2
  have hH := HN_le r
  have hFm := FM_le r
  have M0 := hM.sF 0 (nI 0) (by decide)
  obtain ⟨vF1, vRF1, vGF1, vBF1, e1, hF1⟩ := y_hidden hw (vGF := vGF) (vBF := vBF) hC hF
  obtain ⟨v2, e2, s2⟩ := h_hiddenMany M0 hw
  by_cases h0 : NF r - HN r = 0
  · refine ⟨FP.dconst1, vF1, vRT, vG, vB, vRF1, vGF1, vBF1, v2, ?_, hF1, ?_, (QM.th _ _).tr (QM.sc s2 (by decide) (by decide))⟩
    · unfold f_X7_coverage
      simp (disch := omega) only [z_gt, z_o1, z_o2, z_o3, z_o4, z_o5, z_o6, z_o7, z_o8, z_o9, z_bn, z_jn, nI_add, z_mul, z_sub, z_div, Nat.not_lt_zero, z_cl, z_le, z_lt, z_eq, z_inb, z_nz, z_isB0, z_notJ, z_notI, z_isB1, z_m1, z_pos, z_pos', z_nlt, z_nle', z_m1le, z_m1a, z_nle, z_sI0, z_sI1, z_sI2, z_sI3, z_sJ0, z_sJ1, z_sJ2, z_sJ3, z_sF0, z_sF1, z_sF2, z_sA0, z_sA1, z_sA2, z_sA3, z_sAA, z_sIA, ↓reduceIte, Nat.reduceEqDiff, Nat.reduceLeDiff, Nat.reduceLT, z_l0, z_l1, z_l2, z_l3, z_l4, z_l5, z_l6, z_l7, z_l8, z_l9, z_l10, z_l11, z_l12, z_l13, z_l14, z_l15, z_l16, z_l17, z_l18, z_l19, z_l20, z_l21, z_l22, z_l23, z_l24, z_l25, z_l26, z_l27, z_l28, z_l32, z_l48, z_l56, z_l57, z_l59, z_l63, z_l64, z_l96, z_l97, z_l122, z_l127, z_l152, z_l158, z_l182, z_l255, z_l256, z_l310, z_l342, z_l406, z_l440, z_l729, z_l800, z_l3960, z_l14336, z_l14592, z_l100000, x_faultCount hC, e1, h0]
    · unfold f_X8_coverage
      simp (disch := omega) only [z_gt, z_o1, z_o2, z_o3, z_o4, z_o5, z_o6, z_o7, z_o8, z_o9, z_bn, z_jn, nI_add, z_mul, z_sub, z_div, Nat.not_lt_zero, z_cl, z_le, z_lt, z_eq, z_inb, z_nz, z_isB0, z_notJ, z_notI, z_isB1, z_m1, z_pos, z_pos', z_nlt, z_nle', z_m1le, z_m1a, z_nle, z_sI0, z_sI1, z_sI2, z_sI3, z_sJ0, z_sJ1, z_sJ2, z_sJ3, z_sF0, z_sF1, z_sF2, z_sA0, z_sA1, z_sA2, z_sA3, z_sAA, z_sIA, ↓reduceIte, Nat.reduceEqDiff, Nat.reduceLeDiff, Nat.reduceLT, z_l0, z_l1, z_l2, z_l3, z_l4, z_l5, z_l6, z_l7, z_l8, z_l9, z_l10, z_l11, z_l12, z_l13, z_l14, z_l15, z_l16, z_l17, z_l18, z_l19, z_l20, z_l21, z_l22, z_l23, z_l24, z_l25, z_l26, z_l27, z_l28, z_l32, z_l48, z_l56, z_l57, z_l59, z_l63, z_l64, z_l96, z_l97, z_l122, z_l127, z_l152, z_l158, z_l182, z_l255, z_l256, z_l310, z_l342, z_l406, z_l440, z_l729, z_l800, z_l3960, z_l14336, z_l14592, z_l100000, g_faults M0 hw, e2, h0]
  · obtain ⟨all, vF2, vRT2, vG2, vB2, e3, hF2, -, -, ha, -⟩ := y_foundTests hw ht (vB := vB) hC hT hF1
    obtain ⟨v3, e4, s3⟩ := h_foundMany (M0.sc s2 (by decide)) hw ht
    have hbc := all_FM hw ha
    have hok := cov_ok (FM r) (by omega) (NF r - HN r) (by omega) (by omega)
    refine ⟨FP.ddiv (FP.i2d (nI (FM r))) (FP.i2d (nI (NF r - HN r))), vF2, vRT2, vG2, vB2, vRF1, vGF1, vBF1, v3, ?_, hF2, ?_, ((QM.th _ _).tr (QM.sc s2 (by decide) (by decide))).tr (QM.sc s3 (by decide) (by decide))⟩
    · unfold f_X7_coverage
      have h1 : 0 < NF r - HN r := by omega
      simp (disch := omega) only [z_gt, z_o1, z_o2, z_o3, z_o4, z_o5, z_o6, z_o7, z_o8, z_o9, z_bn, z_jn, nI_add, z_mul, z_sub, z_div, Nat.not_lt_zero, z_cl, z_le, z_lt, z_eq, z_inb, z_nz, z_isB0, z_notJ, z_notI, z_isB1, z_m1, z_pos, z_pos', z_nlt, z_nle', z_m1le, z_m1a, z_nle, z_sI0, z_sI1, z_sI2, z_sI3, z_sJ0, z_sJ1, z_sJ2, z_sJ3, z_sF0, z_sF1, z_sF2, z_sA0, z_sA1, z_sA2, z_sA3, z_sAA, z_sIA, ↓reduceIte, Nat.reduceEqDiff, Nat.reduceLeDiff, Nat.reduceLT, z_l0, z_l1, z_l2, z_l3, z_l4, z_l5, z_l6, z_l7, z_l8, z_l9, z_l10, z_l11, z_l12, z_l13, z_l14, z_l15, z_l16, z_l17, z_l18, z_l19, z_l20, z_l21, z_l22, z_l23, z_l24, z_l25, z_l26, z_l27, z_l28, z_l32, z_l48, z_l56, z_l57, z_l59, z_l63, z_l64, z_l96, z_l97, z_l122, z_l127, z_l152, z_l158, z_l182, z_l255, z_l256, z_l310, z_l342, z_l406, z_l440, z_l729, z_l800, z_l3960, z_l14336, z_l14592, z_l100000, x_faultCount hC, e1, h1, e3, hbc, hok]
    · unfold f_X8_coverage
      have e5 : f_X8_foundMany v2 = some (nI (FM r), v3) := e4
      simp (disch := omega) only [z_gt, z_o1, z_o2, z_o3, z_o4, z_o5, z_o6, z_o7, z_o8, z_o9, z_bn, z_jn, nI_add, z_mul, z_sub, z_div, Nat.not_lt_zero, z_cl, z_le, z_lt, z_eq, z_inb, z_nz, z_isB0, z_notJ, z_notI, z_isB1, z_m1, z_pos, z_pos', z_nlt, z_nle', z_m1le, z_m1a, z_nle, z_sI0, z_sI1, z_sI2, z_sI3, z_sJ0, z_sJ1, z_sJ2, z_sJ3, z_sF0, z_sF1, z_sF2, z_sA0, z_sA1, z_sA2, z_sA3, z_sAA, z_sIA, ↓reduceIte, Nat.reduceEqDiff, Nat.reduceLeDiff, Nat.reduceLT, z_l0, z_l1, z_l2, z_l3, z_l4, z_l5, z_l6, z_l7, z_l8, z_l9, z_l10, z_l11, z_l12, z_l13, z_l14, z_l15, z_l16, z_l17, z_l18, z_l19, z_l20, z_l21, z_l22, z_l23, z_l24, z_l25, z_l26, z_l27, z_l28, z_l32, z_l48, z_l56, z_l57, z_l59, z_l63, z_l64, z_l96, z_l97, z_l122, z_l127, z_l152, z_l158, z_l182, z_l255, z_l256, z_l310, z_l342, z_l406, z_l440, z_l729, z_l800, z_l3960, z_l14336, z_l14592, z_l100000, g_faults M0 hw, e2, h0, e5, hok]
