/-! arguments in their ranges or not; what a question keeps -/
theorem in_or (x : Int32) {n : Nat} (hn : n < 2147483648) : (∃ w, w < n ∧ x = nI w) ∨ (x < 0 ∨ nI n ≤ x) := by
  by_cases h : x < 0
  · exact Or.inr (Or.inl h)
  · obtain ⟨j, hj, rfl⟩ := nI_of h
    by_cases h2 : j < n
    · exact Or.inl ⟨j, h2, rfl⟩
    · exact Or.inr (Or.inr (nI_le (by omega) (by omega)))
theorem g_isIn_y {w n : Nat} (h : w < n) (hn : n < 2147483648) : f_X8_isIn (nI w) (0 : Int32) (nI n - (1 : Int32)) = some (nI 1) := by
  unfold f_X8_isIn
  simp (disch := omega) only [z_gt, z_o1, z_o2, z_o3, z_o4, z_o5, z_o6, z_o7, z_o8, z_o9, z_bn, z_jn, nI_add, z_mul, z_sub, z_div, Nat.not_lt_zero, z_cl, z_le, z_lt, z_eq, z_inb, z_nz, z_isB0, z_notJ, z_notI, z_isB1, z_m1, z_pos, z_pos', z_nlt, z_nle', z_m1le, z_m1a, z_nle, z_sI0, z_sI1, z_sI2, z_sI3, z_sJ0, z_sJ1, z_sJ2, z_sJ3, z_sF0, z_sF1, z_sF2, z_sA0, z_sA1, z_sA2, z_sA3, z_sAA, z_sIA, ↓reduceIte, Nat.reduceEqDiff, Nat.reduceLeDiff, Nat.reduceLT, z_l0, z_l1, z_l2, z_l3, z_l4, z_l5, z_l6, z_l7, z_l8, z_l9, z_l10, z_l11, z_l12, z_l13, z_l14, z_l15, z_l16, z_l17, z_l18, z_l19, z_l20, z_l21, z_l22, z_l23, z_l24, z_l25, z_l26, z_l27, z_l28, z_l32, z_l48, z_l56, z_l57, z_l59, z_l63, z_l64, z_l96, z_l97, z_l122, z_l127, z_l152, z_l158, z_l182, z_l255, z_l256, z_l310, z_l342, z_l406, z_l440, z_l729, z_l800, z_l3960, z_l14336, z_l14592, z_l100000, show ¬ (n - 1 < w) by omega]
theorem g_isIn_n {x : Int32} {n : Nat} (h : x < 0 ∨ nI n ≤ x) (hn : n < 2147483648) : f_X8_isIn x (0 : Int32) (nI n - (1 : Int32)) = some (nI 0) := by
  unfold f_X8_isIn
  by_cases h1 : x < 0
  · rw [z_jn, z_jn, if_pos h1]
    rfl
  · have h2 : nI n - (1 : Int32) < x := by
      have h3 : nI n ≤ x := by
        rcases h with h | h
        · exact absurd h h1
        · exact h
      rw [Int32.le_iff_toInt_le, nI_toInt (by omega)] at h3
      rw [Int32.lt_iff_toInt_lt, Int32.toInt_sub, nI_toInt (by omega)]
      have e1 : (1 : Int32).toInt = 1 := rfl
      rw [e1, Int.bmod_eq_of_le (by omega) (by omega)]
      omega
    rw [z_jn, z_jn, if_neg h1, if_pos h2]
    rfl
theorem g_right1 {v : Vs} (h : v.1 0 = nI 0) (c : Int32) : f_X8_right v (nI 1) c = some (nI 1, v) := by
  unfold f_X8_right
  simp (disch := omega) only [z_gt, z_o1, z_o2, z_o3, z_o4, z_o5, z_o6, z_o7, z_o8, z_o9, z_bn, z_jn, nI_add, z_mul, z_sub, z_div, Nat.not_lt_zero, z_cl, z_le, z_lt, z_eq, z_inb, z_nz, z_isB0, z_notJ, z_notI, z_isB1, z_m1, z_pos, z_pos', z_nlt, z_nle', z_m1le, z_m1a, z_nle, z_sI0, z_sI1, z_sI2, z_sI3, z_sJ0, z_sJ1, z_sJ2, z_sJ3, z_sF0, z_sF1, z_sF2, z_sA0, z_sA1, z_sA2, z_sA3, z_sAA, z_sIA, ↓reduceIte, Nat.reduceEqDiff, Nat.reduceLeDiff, Nat.reduceLT, z_l0, z_l1, z_l2, z_l3, z_l4, z_l5, z_l6, z_l7, z_l8, z_l9, z_l10, z_l11, z_l12, z_l13, z_l14, z_l15, z_l16, z_l17, z_l18, z_l19, z_l20, z_l21, z_l22, z_l23, z_l24, z_l25, z_l26, z_l27, z_l28, z_l32, z_l48, z_l56, z_l57, z_l59, z_l63, z_l64, z_l96, z_l97, z_l122, z_l127, z_l152, z_l158, z_l182, z_l255, z_l256, z_l310, z_l342, z_l406, z_l440, z_l729, z_l800, z_l3960, z_l14336, z_l14592, z_l100000, h]
theorem g_right0 {v : Vs} (h : v.1 0 = nI 0) {c : Nat} (hc : 0 < c) (hc2 : c < 100) : f_X8_right v (nI 0) (nI c) = some (nI 0, sF v 0 (nI c)) := by
  unfold f_X8_right
  have e : ¬ c = 0 := by omega
  simp (disch := omega) only [z_gt, z_o1, z_o2, z_o3, z_o4, z_o5, z_o6, z_o7, z_o8, z_o9, z_bn, z_jn, nI_add, z_mul, z_sub, z_div, Nat.not_lt_zero, z_cl, z_le, z_lt, z_eq, z_inb, z_nz, z_isB0, z_notJ, z_notI, z_isB1, z_m1, z_pos, z_pos', z_nlt, z_nle', z_m1le, z_m1a, z_nle, z_sI0, z_sI1, z_sI2, z_sI3, z_sJ0, z_sJ1, z_sJ2, z_sJ3, z_sF0, z_sF1, z_sF2, z_sA0, z_sA1, z_sA2, z_sA3, z_sAA, z_sIA, ↓reduceIte, Nat.reduceEqDiff, Nat.reduceLeDiff, Nat.reduceLT, z_l0, z_l1, z_l2, z_l3, z_l4, z_l5, z_l6, z_l7, z_l8, z_l9, z_l10, z_l11, z_l12, z_l13, z_l14, z_l15, z_l16, z_l17, z_l18, z_l19, z_l20, z_l21, z_l22, z_l23, z_l24, z_l25, z_l26, z_l27, z_l28, z_l32, z_l48, z_l56, z_l57, z_l59, z_l63, z_l64, z_l96, z_l97, z_l122, z_l127, z_l152, z_l158, z_l182, z_l255, z_l256, z_l310, z_l342, z_l406, z_l440, z_l729, z_l800, z_l3960, z_l14336, z_l14592, z_l100000, h, e]
/-- a question keeps rows, text and what is counted -/
def QM (v v' : Vs) : Prop := v'.1 3 = v.1 3 ∧ v'.1 4 = v.1 4 ∧ v'.1 12 = v.1 12 ∧ v'.1 16 = v.1 16 ∧ v'.2.1 1 = v.2.1 1 ∧ v'.2.1 11 = v.2.1 11
theorem QM.rf (v : Vs) : QM v v := ⟨rfl, rfl, rfl, rfl, rfl, rfl⟩
theorem QM.tr {a b c : Vs} (h : QM a b) (h2 : QM b c) : QM a c := ⟨h2.1.trans h.1, h2.2.1.trans h.2.1, h2.2.2.1.trans h.2.2.1, h2.2.2.2.1.trans h.2.2.2.1, h2.2.2.2.2.1.trans h.2.2.2.2.1, h2.2.2.2.2.2.trans h.2.2.2.2.2⟩
theorem QM.th (v : Vs) (x : Int32) : QM v (sF v 0 x) := ⟨rfl, rfl, rfl, rfl, rfl, rfl⟩
theorem QM.sc {l : List Nat} {v v' : Vs} (h : SC l v v') (h1 : 1 ∉ l) (h2 : 11 ∉ l) : QM v v' := by
  obtain ⟨a, b⟩ := h
  exact ⟨by rw [a], by rw [a], by rw [a], by rw [a], b 1 h1, b 11 h2⟩
theorem MS.qm {v v' : Vs} {n : Nat} {r : Nat → Int32} (h : MS v n r) (hq : QM v v') : MS v' n r := by
  refine ⟨hq.1.trans h.1, h.2.1, fun k hk => ?_⟩
  rw [hq.2.2.2.2.1]
  exact h.2.2 k hk
theorem g_isWire_y {v : Vs} {n : Nat} {r : Nat → Int32} (h : MS v n r) (hw : WFc r) (h0 : v.1 0 = nI 0) {w : Nat} (h1 : w < NW r) : f_X8_isWire v (nI w) = some (nI 1, v) := by
  have hn := hw.nf
  unfold f_X8_isWire
  rw [g_wires h hw, z_o1, g_isIn_y h1 (by omega), z_o1, g_right1 h0, z_o2, z_isB1, z_gt]
theorem g_isWire_n {v : Vs} {n : Nat} {r : Nat → Int32} (h : MS v n r) (hw : WFc r) (h0 : v.1 0 = nI 0) {x : Int32} (h1 : x < 0 ∨ nI (NW r) ≤ x) : f_X8_isWire v x = some (nI 0, sF v 0 (nI 1)) := by
  have hn := hw.nf
  unfold f_X8_isWire
  rw [g_wires h hw, z_o1, g_isIn_n h1 (by omega), z_o1, z_l1, g_right0 h0 (by omega) (by omega), z_o2, z_isB0, z_gt]
theorem g_isFault_y {v : Vs} {n : Nat} {r : Nat → Int32} (h : MS v n r) (hw : WFc r) (h0 : v.1 0 = nI 0) {w : Nat} (h1 : w < NF r) : f_X8_isFault v (nI w) = some (nI 1, v) := by
  have hn := hw.nf
  unfold f_X8_isFault
  rw [g_faults h hw, z_o1, g_isIn_y h1 (by omega), z_o1, g_right1 h0, z_o2, z_isB1, z_gt]
theorem g_isFault_n {v : Vs} {n : Nat} {r : Nat → Int32} (h : MS v n r) (hw : WFc r) (h0 : v.1 0 = nI 0) {x : Int32} (h1 : x < 0 ∨ nI (NF r) ≤ x) : f_X8_isFault v x = some (nI 0, sF v 0 (nI 1)) := by
  have hn := hw.nf
  unfold f_X8_isFault
  rw [g_faults h hw, z_o1, g_isIn_n h1 (by omega), z_o1, z_l1, g_right0 h0 (by omega) (by omega), z_o2, z_isB0, z_gt]
theorem g_isTest_y {v : Vs} {n : Nat} {r : Nat → Int32} (h : MS v n r) (ht : WFt r) (h0 : v.1 0 = nI 0) {w : Nat} (h1 : w < NT r) : f_X8_isTest v (nI w) = some (nI 1, v) := by
  have hn := ht.1.2
  unfold f_X8_isTest
  rw [g_tests h ht, z_o1, g_isIn_y h1 (by omega), z_o1, g_right1 h0, z_o2, z_isB1, z_gt]
theorem g_isTest_n {v : Vs} {n : Nat} {r : Nat → Int32} (h : MS v n r) (ht : WFt r) (h0 : v.1 0 = nI 0) {x : Int32} (h1 : x < 0 ∨ nI (NT r) ≤ x) : f_X8_isTest v x = some (nI 0, sF v 0 (nI 1)) := by
  have hn := ht.1.2
  unfold f_X8_isTest
  rw [g_tests h ht, z_o1, g_isIn_n h1 (by omega), z_o1, z_l1, g_right0 h0 (by omega) (by omega), z_o2, z_isB0, z_gt]
theorem pos_n {w : Nat} (h : w < 2147483648) : ¬ nI w < 0 := nI_pos h
theorem x_wire_y {r : Nat → Int32} (hw : WFc r) {vF vC : Vs} (hC : RC r vC) {w : Nat} (h1 : w < NW r) : f_X7_checkWire vF vC (nI w) = some 0 := by
  have hn := hw.nf
  unfold f_X7_checkWire
  rw [z_jn, hC.1.2.1, if_neg (pos_n (by omega)), ilt h1 (by omega)]
theorem x_wire_n {r : Nat → Int32} {vF vC : Vs} (hC : RC r vC) {x : Int32} (h1 : x < 0 ∨ nI (NW r) ≤ x) : f_X7_checkWire vF vC x = some 2 := by
  unfold f_X7_checkWire
  rw [z_jn, hC.1.2.1]
  by_cases h : x < 0
  · rw [if_pos h]
  · rw [if_neg h, if_neg]
    rcases h1 with h1 | h1
    · exact absurd h1 h
    · exact Int32.not_lt.mpr h1
theorem x_test_y {r : Nat → Int32} (ht : WFt r) {vF vT : Vs} (hT : RT r vT) {w : Nat} (h1 : w < NT r) : f_X7_checkTest vF vT (nI w) = some 0 := by
  have hn := ht.1.2
  unfold f_X7_checkTest
  rw [z_jn, hT.1, if_neg (pos_n (by omega)), ilt h1 (by omega)]
theorem x_test_n {r : Nat → Int32} {vF vT : Vs} (hT : RT r vT) {x : Int32} (h1 : x < 0 ∨ nI (NT r) ≤ x) : f_X7_checkTest vF vT x = some 2 := by
  unfold f_X7_checkTest
  rw [z_jn, hT.1]
  by_cases h : x < 0
  · rw [if_pos h]
  · rw [if_neg h, if_neg]
    rcases h1 with h1 | h1
    · exact absurd h1 h
    · exact Int32.not_lt.mpr h1
theorem x_fault_y {r : Nat → Int32} (hw : WFc r) {vF vC : Vs} (hC : RC r vC) {w : Nat} (h1 : w < NF r) : f_X7_checkFault vF vC (nI w) = some 0 := by
  have hn := hw.nf
  unfold f_X7_checkFault
  rw [z_jn, x_faultCount hC, z_o1, if_neg (pos_n (by omega)), ilt h1 (by omega)]
theorem x_fault_n {r : Nat → Int32} {vF vC : Vs} (hC : RC r vC) {x : Int32} (h1 : x < 0 ∨ nI (NF r) ≤ x) : f_X7_checkFault vF vC x = some 2 := by
  unfold f_X7_checkFault
  rw [z_jn, x_faultCount hC, z_o1]
  by_cases h : x < 0
  · rw [if_pos h]
  · rw [if_neg h, if_neg]
    rcases h1 with h1 | h1
    · exact absurd h1 h
    · exact Int32.not_lt.mpr h1
/-- the class's rows, as they stand or are to be made -/
def FI (r : Nat → Int32) (vF vRT vG vRF : Vs) : Prop := (vF.1 6 ≠ 0 → TR r vRT vG) ∧ (vF.1 5 ≠ 0 → FR r vRF) ∧ vRT.1 4 = nI 1 ∧ vRF.1 4 = nI 4 ∧ ∀ j, j < 729 → vF.2.1 8 j = nI 0
theorem y_refreshTest {r : Nat → Int32} (hw : WFc r) (ht : WFt r) {vF vC vT vRT vG vB vRF : Vs} (hC : RC r vC) (hT : RT r vT) (hF : FI r vF vRT vG vRF) :
    ∃ vF' vRT' vG' vB', f_X7_refreshTestRows vF vC vT 342 vRT vG vB = some (vF', vRT', vG', vB') ∧ FI r vF' vRT' vG' vRF ∧ TR r vRT' vG' ∧ vF'.2 = vF.2 ∧ vF'.1 5 = vF.1 5 ∧ vF'.1 6 ≠ 0 := by
  obtain ⟨⟨a, b, c, d⟩, e, h1, h2, h3, h4, h5⟩ := x_refreshTest hw ht (vB := vB) hC hT hF.2.2.1 hF.1
  refine ⟨a, b, c, d, e, ⟨fun _ => h4, fun q => hF.2.1 ?_, h5, hF.2.2.2.1, fun j hj => ?_⟩, h4, h1, h2 5 (by decide), h3⟩
  · rw [← h2 5 (by decide)]; exact q
  · show a.2.1 8 j = _
    have h1' : a.2 = vF.2 := h1
    rw [h1']
    exact hF.2.2.2.2 j hj
theorem y_refreshFull {r : Nat → Int32} (hw : WFc r) {vF vC vRT vG vRF vGF vBF : Vs} (hC : RC r vC) (hF : FI r vF vRT vG vRF) :
    ∃ vF' vRF' vGF' vBF', f_X7_refreshFullRows vF vC 1368 vRF vGF vBF = some (vF', vRF', vGF', vBF') ∧ FI r vF' vRT vG vRF' ∧ FR r vRF' ∧ vF'.2 = vF.2 ∧ vF'.1 6 = vF.1 6 ∧ vF'.1 5 ≠ 0 := by
  obtain ⟨⟨a, b, c, d⟩, e, h1, h2, h3, h4, h5⟩ := x_refreshFull hw (vGF := vGF) (vBF := vBF) hC hF.2.2.2.1 hF.2.1
  refine ⟨a, b, c, d, e, ⟨fun q => hF.1 ?_, fun _ => h4, hF.2.2.1, h5, fun j hj => ?_⟩, h4, h1, h2 6 (by decide), h3⟩
  · rw [← h2 6 (by decide)]; exact q
  · show a.2.1 8 j = _
    have h1' : a.2 = vF.2 := h1
    rw [h1']
    exact hF.2.2.2.2 j hj
def thM (v : Vs) (c : Nat) : Vs := sF (sF v 0 (nI 0)) 0 (nI c)
theorem QM.tm (v : Vs) (c : Nat) : QM v (thM v c) := (QM.th _ _).tr (QM.th _ _)
theorem thM_0 (v : Vs) (c : Nat) : (thM v c).1 0 = nI c := z_sF1 _ _ _
