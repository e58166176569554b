/-! the reference: its row, gates, values -/
def MS (v : Vs) (n : Nat) (r : Nat → Int32) : Prop := v.1 3 = nI n ∧ n < 9 ∧ ∀ k, k < 440 → v.2.1 1 (440 * n + k) = r k
theorem MS.sA {v : Vs} {n : Nat} {r : Nat → Int32} (h : MS v n r) (k : Nat) (f : Nat → Int32) (hk : 1 ≠ k) : MS (sA v k f) n r := by
  refine ⟨h.1, h.2.1, fun j hj => ?_⟩
  rw [z_sA3 v k f hk]
  exact h.2.2 j hj
theorem MS.sF {v : Vs} {n : Nat} {r : Nat → Int32} (h : MS v n r) (k : Nat) (x : Int32) (hk : 3 ≠ k) : MS (sF v k x) n r := by
  refine ⟨?_, h.2.1, h.2.2⟩
  rw [z_sF2 v k x hk]
  exact h.1
theorem g_get {v : Vs} {n : Nat} {r : Nat → Int32} (h : MS v n r) {k : Nat} (hk : k < 440) : f_X8_get v (nI k) = some (r k) := by
  obtain ⟨h1, h2, h3⟩ := h
  unfold f_X8_get
  simp (disch := omega) only [z_gt, z_o1, z_o2, z_o3, z_o4, z_o5, z_o6, z_o7, z_o8, z_o9, z_bn, z_jn, nI_add, z_mul, z_sub, z_div, Nat.not_lt_zero, z_cl, z_le, z_lt, z_eq, z_inb, z_nz, z_isB0, z_notJ, z_notI, z_isB1, z_m1, z_pos, z_pos', z_nlt, z_nle', z_m1le, z_m1a, z_nle, z_sI0, z_sI1, z_sI2, z_sI3, z_sJ0, z_sJ1, z_sJ2, z_sJ3, z_sF0, z_sF1, z_sF2, z_sA0, z_sA1, z_sA2, z_sA3, z_sAA, z_sIA, ↓reduceIte, Nat.reduceEqDiff, Nat.reduceLeDiff, Nat.reduceLT, z_l0, z_l1, z_l2, z_l3, z_l4, z_l5, z_l6, z_l7, z_l8, z_l9, z_l10, z_l11, z_l12, z_l13, z_l14, z_l15, z_l16, z_l17, z_l18, z_l19, z_l20, z_l21, z_l22, z_l23, z_l24, z_l25, z_l26, z_l27, z_l28, z_l32, z_l48, z_l56, z_l57, z_l59, z_l63, z_l64, z_l96, z_l97, z_l122, z_l127, z_l152, z_l158, z_l182, z_l255, z_l256, z_l310, z_l342, z_l406, z_l440, z_l729, z_l800, z_l3960, z_l14336, z_l14592, z_l100000, h1, h3 k hk]
theorem g_inputs {v : Vs} {n : Nat} {r : Nat → Int32} (h : MS v n r) (hw : WFc r) : f_X8_inputs v = some (nI (NI r)) := by
  unfold f_X8_inputs
  rw [z_l0, g_get h (by omega), z_o1, hw.1.1]
theorem g_wires {v : Vs} {n : Nat} {r : Nat → Int32} (h : MS v n r) (hw : WFc r) : f_X8_wires v = some (nI (NW r)) := by
  unfold f_X8_wires
  rw [z_l1, g_get h (by omega), z_o1, hw.2.1.1]
theorem g_outputs {v : Vs} {n : Nat} {r : Nat → Int32} (h : MS v n r) (hw : WFc r) : f_X8_outputs v = some (nI (NO r)) := by
  unfold f_X8_outputs
  rw [z_l2, g_get h (by omega), z_o1, hw.2.2.1.1]
theorem g_bridges {v : Vs} {n : Nat} {r : Nat → Int32} (h : MS v n r) (hw : WFc r) : f_X8_get v (nI 3) = some (nI (NB r)) := by
  rw [g_get h (by omega), hw.2.2.2.1.1]
theorem g_tests {v : Vs} {n : Nat} {r : Nat → Int32} (h : MS v n r) (hw : WFt r) : f_X8_tests v = some (nI (NT r)) := by
  unfold f_X8_tests
  rw [z_l4, g_get h (by omega), z_o1, hw.1.1]
abbrev NF (r : Nat → Int32) : Nat := 2 * NW r + NB r
theorem WFc.nf {r : Nat → Int32} (hw : WFc r) : NF r ≤ 56 ∧ NW r ≤ 24 ∧ NI r ≤ 8 ∧ NO r ≤ 6 ∧ NB r ≤ 8 ∧ NF r = 2 * NW r + NB r := by
  have h0 : NF r = 2 * NW r + NB r := rfl
  have h1 := hw.1.2
  have h2 := hw.2.1.2
  have h3 := hw.2.2.1.2
  have h4 := hw.2.2.2.1.2
  omega
theorem g_faults {v : Vs} {n : Nat} {r : Nat → Int32} (h : MS v n r) (hw : WFc r) : f_X8_faults v = some (nI (NF r)) := by
  unfold f_X8_faults
  rw [g_wires h hw, z_o1, z_l3, g_bridges h hw, z_o1]
  simp (disch := omega) only [z_gt, z_o1, z_o2, z_o3, z_o4, z_o5, z_o6, z_o7, z_o8, z_o9, z_bn, z_jn, nI_add, z_mul, z_sub, z_div, Nat.not_lt_zero, z_cl, z_le, z_lt, z_eq, z_inb, z_nz, z_isB0, z_notJ, z_notI, z_isB1, z_m1, z_pos, z_pos', z_nlt, z_nle', z_m1le, z_m1a, z_nle, z_sI0, z_sI1, z_sI2, z_sI3, z_sJ0, z_sJ1, z_sJ2, z_sJ3, z_sF0, z_sF1, z_sF2, z_sA0, z_sA1, z_sA2, z_sA3, z_sAA, z_sIA, ↓reduceIte, Nat.reduceEqDiff, Nat.reduceLeDiff, Nat.reduceLT, z_l0, z_l1, z_l2, z_l3, z_l4, z_l5, z_l6, z_l7, z_l8, z_l9, z_l10, z_l11, z_l12, z_l13, z_l14, z_l15, z_l16, z_l17, z_l18, z_l19, z_l20, z_l21, z_l22, z_l23, z_l24, z_l25, z_l26, z_l27, z_l28, z_l32, z_l48, z_l56, z_l57, z_l59, z_l63, z_l64, z_l96, z_l97, z_l122, z_l127, z_l152, z_l158, z_l182, z_l255, z_l256, z_l310, z_l342, z_l406, z_l440, z_l729, z_l800, z_l3960, z_l14336, z_l14592, z_l100000]
theorem g_kind {v : Vs} {n : Nat} {r : Nat → Int32} (h : MS v n r) {w : Nat} (hw : w < 24) : f_X8_kindOf v (nI w) = some (r (8 + w)) := by
  unfold f_X8_kindOf
  rw [z_l8, nI_add, g_get h (by omega), z_o1]
theorem g_have {v : Vs} {n : Nat} {r : Nat → Int32} (h : MS v n r) {w : Nat} (hw : w < 24) : f_X8_have v (nI w) = some (r (32 + w)) := by
  unfold f_X8_have
  rw [z_l32, nI_add, g_get h (by omega), z_o1]
theorem g_operand {v : Vs} {n : Nat} {r : Nat → Int32} (h : MS v n r) {w k : Nat} (hw : w < 24) (hk : k < 4) : f_X8_operandOf v (nI w) (nI k) = some (r (56 + 4 * w + k)) := by
  unfold f_X8_operandOf
  rw [z_l56, z_l4, z_mul, nI_add, nI_add, g_get h (by omega), z_o1]
theorem g_turned {v : Nat} (h : v ≤ 2) : f_X8_turned (nI v) = some (nI (tn v)) := by
  have h1 : v = 0 ∨ v = 1 ∨ v = 2 := by omega
  rcases h1 with rfl | rfl | rfl <;> rfl
theorem g_decided {a b d : Nat} (ha : a ≤ 2) (hb : b ≤ 2) (hd : d ≤ 1) : f_X8_decided (nI a) (nI b) (nI d) = some (nI (dc a b d)) := by
  have h1 : a = 0 ∨ a = 1 ∨ a = 2 := by omega
  have h2 : b = 0 ∨ b = 1 ∨ b = 2 := by omega
  have h3 : d = 0 ∨ d = 1 := by omega
  rcases h1 with rfl | rfl | rfl <;> rcases h2 with rfl | rfl | rfl <;> rcases h3 with rfl | rfl <;> rfl
theorem WFc.gate {r : Nat → Int32} (hw : WFc r) {w : Nat} (h1 : NI r ≤ w) (h2 : w < NW r) : w < 24 ∧ r (8 + w) = nI (kd r w) ∧ kd r w ≤ 8 ∧ r (32 + w) = nI (hv r w) ∧ few (kd r w) ≤ hv r w ∧ hv r w ≤ mst (kd r w) ∧ 1 ≤ hv r w ∧ hv r w ≤ 4 ∧ ∀ k, k < hv r w → r (56 + 4 * w + k) = nI (op r w k) ∧ op r w k < w := by
  obtain ⟨⟨a1, a2⟩, b1, b2, b3⟩ := hw.2.2.2.2.2.1 w h1 h2
  have h3 := few_1 (kd r w)
  have h4 := mst_4 (kd r w)
  have h5 := hw.nf
  exact ⟨by omega, a1, a2, b1, b2, b3, by omega, by omega, fun k hk => hw.2.2.2.2.2.2.1 w k h1 h2 hk⟩
theorem g_fold_clean {v : Vs} {n : Nat} {r : Nat → Int32} (h : MS v n r) (hw : WFc r) {w : Nat} (h1 : NI r ≤ w) (h2 : w < NW r) {c : Nat → Nat} (hc : ∀ j, j < w → v.2.1 7 j = nI (c j) ∧ c j ≤ 2) (hk : kd r w ≤ 5) {t20 : Int32} (h20 : t20 = (if kd r w = 4 then nI 1 else if kd r w = 5 then nI 1 else nI 0)) : Ok (lp (f_X8_gate_clean_L126 v (nI w) (nI (kd r w)) t20) (fun _ _ => none) FU (nI (c (op r w 0))) (nI 1)) (fun x => x = nI (fin2 (kd r w) (gfold (kd r w) (fun k => c (op r w k)) (hv r w - 1)))) := by
  obtain ⟨h24, g1, g2, g3, g4, g5, g6, g7, g8⟩ := hw.gate h1 h2
  have hc' : ∀ k, k < hv r w → c (op r w k) ≤ 2 := fun k hk => (hc _ (g8 k hk).2).2
  refine zl2 (I := fun m a b => ∃ j, a = nI (gfold (kd r w) (fun k => c (op r w k)) j) ∧ b = nI (j + 1) ∧ j + 1 ≤ hv r w ∧ m = hv r w - (j + 1)) ?_ FU (hv r w - 1) _ _ (by unfold FU; omega) ⟨0, rfl, rfl, by omega, by omega⟩
  rintro m a b self ⟨j, rfl, rfl, hj, rfl⟩ ih
  unfold f_X8_gate_clean_L126
  have hg := gfold_2 (kd r w) (f := fun k => c (op r w k)) (hc' 0 (by omega)) j
  refine ok_o1e ((g_have h h24).trans (congrArg some g3)) ?_
  by_cases hb : hv r w ≤ j + 1
  · have e : hv r w - 1 = j := by omega
    rw [e]
    have e2 : (nI (hv r w) ≤ nI (j + 1)) := (nI_leI (by omega) (by omega)).mpr hb
    rw [if_pos e2]
    have ht := g_turned hg
    generalize gfold (kd r w) (fun k => c (op r w k)) j = y at ht hg ⊢
    have hk6 : kd r w = 0 ∨ kd r w = 1 ∨ kd r w = 2 ∨ kd r w = 3 ∨ kd r w = 4 ∨ kd r w = 5 := by omega
    rcases hk6 with q | q | q | q | q | q <;> rw [q] <;> simp (disch := omega) only [z_gt, z_o1, z_o2, z_o3, z_o4, z_o5, z_o6, z_o7, z_o8, z_o9, z_bn, z_jn, nI_add, z_mul, z_sub, z_div, Nat.not_lt_zero, z_cl, z_le, z_lt, z_eq, z_inb, z_nz, z_isB0, z_notJ, z_notI, z_isB1, z_m1, z_pos, z_pos', z_nlt, z_nle', z_m1le, z_m1a, z_nle, z_sI0, z_sI1, z_sI2, z_sI3, z_sJ0, z_sJ1, z_sJ2, z_sJ3, z_sF0, z_sF1, z_sF2, z_sA0, z_sA1, z_sA2, z_sA3, z_sAA, z_sIA, ↓reduceIte, Nat.reduceEqDiff, Nat.reduceLeDiff, Nat.reduceLT, z_l0, z_l1, z_l2, z_l3, z_l4, z_l5, z_l6, z_l7, z_l8, z_l9, z_l10, z_l11, z_l12, z_l13, z_l14, z_l15, z_l16, z_l17, z_l18, z_l19, z_l20, z_l21, z_l22, z_l23, z_l24, z_l25, z_l26, z_l27, z_l28, z_l32, z_l48, z_l56, z_l57, z_l59, z_l63, z_l64, z_l96, z_l97, z_l122, z_l127, z_l152, z_l158, z_l182, z_l255, z_l256, z_l310, z_l342, z_l406, z_l440, z_l729, z_l800, z_l3960, z_l14336, z_l14592, z_l100000, ht] <;> exact ok_some rfl
  · have e2 : ¬ (nI (hv r w) ≤ nI (j + 1)) := fun q => hb ((nI_leI (by omega) (by omega)).mp q)
    rw [if_neg e2]
    obtain ⟨q1, q2⟩ := g8 (j + 1) (by omega)
    refine ok_o1e ((g_operand h h24 (by omega)).trans (congrArg some q1)) ?_
    refine ok_gd (z_inb (by omega) (by omega)) ?_
    obtain ⟨p1, p2⟩ := hc _ q2
    rw [z_cl (by omega), p1]
    have ih' := ih (hv r w - (j + 1 + 1)) (nI (gfold (kd r w) (fun k => c (op r w k)) (j + 1))) (nI (j + 1 + 1)) (by omega) ⟨j + 1, rfl, rfl, by omega, rfl⟩
    have eg : gfold (kd r w) (fun k => c (op r w k)) (j + 1) = st2 (kd r w) (gfold (kd r w) (fun k => c (op r w k)) j) (c (op r w (j + 1))) := rfl
    rw [eg] at ih'
    rw [z_l1, nI_add]
    generalize gfold (kd r w) (fun k => c (op r w k)) j = y at hg ih' ⊢
    generalize c (op r w (j + 1)) = z at p2 ih' ⊢
    have hy : y = 0 ∨ y = 1 ∨ y = 2 := by omega
    have hz : z = 0 ∨ z = 1 ∨ z = 2 := by omega
    have hk6 : kd r w = 0 ∨ kd r w = 1 ∨ kd r w = 2 ∨ kd r w = 3 ∨ kd r w = 4 ∨ kd r w = 5 := by omega
    rcases hk6 with q | q | q | q | q | q <;> rw [q] at ih' h20 ⊢ <;> subst h20 <;> rcases hy with rfl | rfl | rfl <;> rcases hz with rfl | rfl | rfl <;> exact ih'
theorem g_gate_clean {v : Vs} {n : Nat} {r : Nat → Int32} (h : MS v n r) (hw : WFc r) {w : Nat} (h1 : NI r ≤ w) (h2 : w < NW r) {c : Nat → Nat} (hc : ∀ j, j < w → v.2.1 7 j = nI (c j) ∧ c j ≤ 2) : f_X8_gate_clean v (nI w) = some (nI (gval r w c)) := by
  refine ok_get ?_
  obtain ⟨h24, g1, g2, g3, g4, g5, g6, g7, g8⟩ := hw.gate h1 h2
  unfold f_X8_gate_clean
  refine ok_o1e ((g_kind h h24).trans (congrArg some g1)) ?_
  obtain ⟨q1, q2⟩ := g8 0 (by omega)
  refine ok_o1e ((g_operand (k := 0) h h24 (by omega)).trans (congrArg some q1)) ?_
  refine ok_gd (z_inb (by omega) (by omega)) ?_
  obtain ⟨p1, p2⟩ := hc _ q2
  rw [z_cl (by omega), p1]
  have ht := g_turned p2
  unfold gval
  have hk9 : kd r w = 6 ∨ kd r w = 7 ∨ kd r w = 8 ∨ kd r w ≤ 5 := by omega
  rcases hk9 with q | q | q | q
  · rw [q]
    simp (disch := omega) only [z_gt, z_o1, z_o2, z_o3, z_o4, z_o5, z_o6, z_o7, z_o8, z_o9, z_bn, z_jn, nI_add, z_mul, z_sub, z_div, Nat.not_lt_zero, z_cl, z_le, z_lt, z_eq, z_inb, z_nz, z_isB0, z_notJ, z_notI, z_isB1, z_m1, z_pos, z_pos', z_nlt, z_nle', z_m1le, z_m1a, z_nle, z_sI0, z_sI1, z_sI2, z_sI3, z_sJ0, z_sJ1, z_sJ2, z_sJ3, z_sF0, z_sF1, z_sF2, z_sA0, z_sA1, z_sA2, z_sA3, z_sAA, z_sIA, ↓reduceIte, Nat.reduceEqDiff, Nat.reduceLeDiff, Nat.reduceLT, z_l0, z_l1, z_l2, z_l3, z_l4, z_l5, z_l6, z_l7, z_l8, z_l9, z_l10, z_l11, z_l12, z_l13, z_l14, z_l15, z_l16, z_l17, z_l18, z_l19, z_l20, z_l21, z_l22, z_l23, z_l24, z_l25, z_l26, z_l27, z_l28, z_l32, z_l48, z_l56, z_l57, z_l59, z_l63, z_l64, z_l96, z_l97, z_l122, z_l127, z_l152, z_l158, z_l182, z_l255, z_l256, z_l310, z_l342, z_l406, z_l440, z_l729, z_l800, z_l3960, z_l14336, z_l14592, z_l100000, ht]
    exact ok_some rfl
  · rw [q]
    simp (disch := omega) only [z_gt, z_o1, z_o2, z_o3, z_o4, z_o5, z_o6, z_o7, z_o8, z_o9, z_bn, z_jn, nI_add, z_mul, z_sub, z_div, Nat.not_lt_zero, z_cl, z_le, z_lt, z_eq, z_inb, z_nz, z_isB0, z_notJ, z_notI, z_isB1, z_m1, z_pos, z_pos', z_nlt, z_nle', z_m1le, z_m1a, z_nle, z_sI0, z_sI1, z_sI2, z_sI3, z_sJ0, z_sJ1, z_sJ2, z_sJ3, z_sF0, z_sF1, z_sF2, z_sA0, z_sA1, z_sA2, z_sA3, z_sAA, z_sIA, ↓reduceIte, Nat.reduceEqDiff, Nat.reduceLeDiff, Nat.reduceLT, z_l0, z_l1, z_l2, z_l3, z_l4, z_l5, z_l6, z_l7, z_l8, z_l9, z_l10, z_l11, z_l12, z_l13, z_l14, z_l15, z_l16, z_l17, z_l18, z_l19, z_l20, z_l21, z_l22, z_l23, z_l24, z_l25, z_l26, z_l27, z_l28, z_l32, z_l48, z_l56, z_l57, z_l59, z_l63, z_l64, z_l96, z_l97, z_l122, z_l127, z_l152, z_l158, z_l182, z_l255, z_l256, z_l310, z_l342, z_l406, z_l440, z_l729, z_l800, z_l3960, z_l14336, z_l14592, z_l100000]
    exact ok_some rfl
  · have e3 : few (kd r w) = 3 := by rw [q]; rfl
    obtain ⟨a1, a2⟩ := g8 1 (by omega)
    obtain ⟨b1, b2⟩ := g8 2 (by omega)
    obtain ⟨c1, c2⟩ := hc _ a2
    obtain ⟨d1, d2⟩ := hc _ b2
    have oa := (g_operand (k := 1) h h24 (by omega)).trans (congrArg some a1)
    have ob := (g_operand (k := 2) h h24 (by omega)).trans (congrArg some b1)
    rw [q]
    simp (disch := omega) only [z_gt, z_o1, z_o2, z_o3, z_o4, z_o5, z_o6, z_o7, z_o8, z_o9, z_bn, z_jn, nI_add, z_mul, z_sub, z_div, Nat.not_lt_zero, z_cl, z_le, z_lt, z_eq, z_inb, z_nz, z_isB0, z_notJ, z_notI, z_isB1, z_m1, z_pos, z_pos', z_nlt, z_nle', z_m1le, z_m1a, z_nle, z_sI0, z_sI1, z_sI2, z_sI3, z_sJ0, z_sJ1, z_sJ2, z_sJ3, z_sF0, z_sF1, z_sF2, z_sA0, z_sA1, z_sA2, z_sA3, z_sAA, z_sIA, ↓reduceIte, Nat.reduceEqDiff, Nat.reduceLeDiff, Nat.reduceLT, z_l0, z_l1, z_l2, z_l3, z_l4, z_l5, z_l6, z_l7, z_l8, z_l9, z_l10, z_l11, z_l12, z_l13, z_l14, z_l15, z_l16, z_l17, z_l18, z_l19, z_l20, z_l21, z_l22, z_l23, z_l24, z_l25, z_l26, z_l27, z_l28, z_l32, z_l48, z_l56, z_l57, z_l59, z_l63, z_l64, z_l96, z_l97, z_l122, z_l127, z_l152, z_l158, z_l182, z_l255, z_l256, z_l310, z_l342, z_l406, z_l440, z_l729, z_l800, z_l3960, z_l14336, z_l14592, z_l100000, oa, ob, c1, d1]
    generalize c (op r w 0) = x at p2 ⊢
    generalize c (op r w 1) = y at c2 ⊢
    generalize c (op r w 2) = z at d2 ⊢
    have hx : x = 0 ∨ x = 1 ∨ x = 2 := by omega
    have hy : y = 0 ∨ y = 1 ∨ y = 2 := by omega
    have hz : z = 0 ∨ z = 1 ∨ z = 2 := by omega
    rcases hx with rfl | rfl | rfl <;> rcases hy with rfl | rfl | rfl <;> rcases hz with rfl | rfl | rfl <;> exact ok_some rfl
  · rw [if_neg (show ¬ kd r w = 6 by omega), if_neg (show ¬ kd r w = 7 by omega), if_neg (show ¬ kd r w = 8 by omega)]
    have hF := fun t h20 => g_fold_clean h hw h1 h2 hc q (t20 := t) h20
    generalize fin2 (kd r w) (gfold (kd r w) (fun k => c (op r w k)) (hv r w - 1)) = y at hF ⊢
    have hk6 : kd r w = 0 ∨ kd r w = 1 ∨ kd r w = 2 ∨ kd r w = 3 ∨ kd r w = 4 ∨ kd r w = 5 := by omega
    rcases hk6 with q | q | q | q | q | q <;> rw [q] at hF ⊢ <;> simp (disch := omega) only [z_gt, z_o1, z_o2, z_o3, z_o4, z_o5, z_o6, z_o7, z_o8, z_o9, z_bn, z_jn, nI_add, z_mul, z_sub, z_div, Nat.not_lt_zero, z_cl, z_le, z_lt, z_eq, z_inb, z_nz, z_isB0, z_notJ, z_notI, z_isB1, z_m1, z_pos, z_pos', z_nlt, z_nle', z_m1le, z_m1a, z_nle, z_sI0, z_sI1, z_sI2, z_sI3, z_sJ0, z_sJ1, z_sJ2, z_sJ3, z_sF0, z_sF1, z_sF2, z_sA0, z_sA1, z_sA2, z_sA3, z_sAA, z_sIA, ↓reduceIte, Nat.reduceEqDiff, Nat.reduceLeDiff, Nat.reduceLT, z_l0, z_l1, z_l2, z_l3, z_l4, z_l5, z_l6, z_l7, z_l8, z_l9, z_l10, z_l11, z_l12, z_l13, z_l14, z_l15, z_l16, z_l17, z_l18, z_l19, z_l20, z_l21, z_l22, z_l23, z_l24, z_l25, z_l26, z_l27, z_l28, z_l32, z_l48, z_l56, z_l57, z_l59, z_l63, z_l64, z_l96, z_l97, z_l122, z_l127, z_l152, z_l158, z_l182, z_l255, z_l256, z_l310, z_l342, z_l406, z_l440, z_l729, z_l800, z_l3960, z_l14336, z_l14592, z_l100000] <;> exact hF _ rfl
theorem g_fold_bent {v : Vs} {n : Nat} {r : Nat → Int32} (h : MS v n r) (hw : WFc r) {w : Nat} (h1 : NI r ≤ w) (h2 : w < NW r) {c : Nat → Nat} (hc : ∀ j, j < w → v.2.1 8 j = nI (c j) ∧ c j ≤ 2) (hk : kd r w ≤ 5) {t20 : Int32} (h20 : t20 = (if kd r w = 4 then nI 1 else if kd r w = 5 then nI 1 else nI 0)) : Ok (lp (f_X8_gate_bent_L126 v (nI w) (nI (kd r w)) t20) (fun _ _ => none) FU (nI (c (op r w 0))) (nI 1)) (fun x => x = nI (fin2 (kd r w) (gfold (kd r w) (fun k => c (op r w k)) (hv r w - 1)))) := by
  obtain ⟨h24, g1, g2, g3, g4, g5, g6, g7, g8⟩ := hw.gate h1 h2
  have hc' : ∀ k, k < hv r w → c (op r w k) ≤ 2 := fun k hk => (hc _ (g8 k hk).2).2
  refine zl2 (I := fun m a b => ∃ j, a = nI (gfold (kd r w) (fun k => c (op r w k)) j) ∧ b = nI (j + 1) ∧ j + 1 ≤ hv r w ∧ m = hv r w - (j + 1)) ?_ FU (hv r w - 1) _ _ (by unfold FU; omega) ⟨0, rfl, rfl, by omega, by omega⟩
  rintro m a b self ⟨j, rfl, rfl, hj, rfl⟩ ih
  unfold f_X8_gate_bent_L126
  have hg := gfold_2 (kd r w) (f := fun k => c (op r w k)) (hc' 0 (by omega)) j
  refine ok_o1e ((g_have h h24).trans (congrArg some g3)) ?_
  by_cases hb : hv r w ≤ j + 1
  · have e : hv r w - 1 = j := by omega
    rw [e]
    have e2 : (nI (hv r w) ≤ nI (j + 1)) := (nI_leI (by omega) (by omega)).mpr hb
    rw [if_pos e2]
    have ht := g_turned hg
    generalize gfold (kd r w) (fun k => c (op r w k)) j = y at ht hg ⊢
    have hk6 : kd r w = 0 ∨ kd r w = 1 ∨ kd r w = 2 ∨ kd r w = 3 ∨ kd r w = 4 ∨ kd r w = 5 := by omega
    rcases hk6 with q | q | q | q | q | q <;> rw [q] <;> simp (disch := omega) only [z_gt, z_o1, z_o2, z_o3, z_o4, z_o5, z_o6, z_o7, z_o8, z_o9, z_bn, z_jn, nI_add, z_mul, z_sub, z_div, Nat.not_lt_zero, z_cl, z_le, z_lt, z_eq, z_inb, z_nz, z_isB0, z_notJ, z_notI, z_isB1, z_m1, z_pos, z_pos', z_nlt, z_nle', z_m1le, z_m1a, z_nle, z_sI0, z_sI1, z_sI2, z_sI3, z_sJ0, z_sJ1, z_sJ2, z_sJ3, z_sF0, z_sF1, z_sF2, z_sA0, z_sA1, z_sA2, z_sA3, z_sAA, z_sIA, ↓reduceIte, Nat.reduceEqDiff, Nat.reduceLeDiff, Nat.reduceLT, z_l0, z_l1, z_l2, z_l3, z_l4, z_l5, z_l6, z_l7, z_l8, z_l9, z_l10, z_l11, z_l12, z_l13, z_l14, z_l15, z_l16, z_l17, z_l18, z_l19, z_l20, z_l21, z_l22, z_l23, z_l24, z_l25, z_l26, z_l27, z_l28, z_l32, z_l48, z_l56, z_l57, z_l59, z_l63, z_l64, z_l96, z_l97, z_l122, z_l127, z_l152, z_l158, z_l182, z_l255, z_l256, z_l310, z_l342, z_l406, z_l440, z_l729, z_l800, z_l3960, z_l14336, z_l14592, z_l100000, ht] <;> exact ok_some rfl
  · have e2 : ¬ (nI (hv r w) ≤ nI (j + 1)) := fun q => hb ((nI_leI (by omega) (by omega)).mp q)
    rw [if_neg e2]
    obtain ⟨q1, q2⟩ := g8 (j + 1) (by omega)
    refine ok_o1e ((g_operand h h24 (by omega)).trans (congrArg some q1)) ?_
    refine ok_gd (z_inb (by omega) (by omega)) ?_
    obtain ⟨p1, p2⟩ := hc _ q2
    rw [z_cl (by omega), p1]
    have ih' := ih (hv r w - (j + 1 + 1)) (nI (gfold (kd r w) (fun k => c (op r w k)) (j + 1))) (nI (j + 1 + 1)) (by omega) ⟨j + 1, rfl, rfl, by omega, rfl⟩
    have eg : gfold (kd r w) (fun k => c (op r w k)) (j + 1) = st2 (kd r w) (gfold (kd r w) (fun k => c (op r w k)) j) (c (op r w (j + 1))) := rfl
    rw [eg] at ih'
    rw [z_l1, nI_add]
    generalize gfold (kd r w) (fun k => c (op r w k)) j = y at hg ih' ⊢
    generalize c (op r w (j + 1)) = z at p2 ih' ⊢
    have hy : y = 0 ∨ y = 1 ∨ y = 2 := by omega
    have hz : z = 0 ∨ z = 1 ∨ z = 2 := by omega
    have hk6 : kd r w = 0 ∨ kd r w = 1 ∨ kd r w = 2 ∨ kd r w = 3 ∨ kd r w = 4 ∨ kd r w = 5 := by omega
    rcases hk6 with q | q | q | q | q | q <;> rw [q] at ih' h20 ⊢ <;> subst h20 <;> rcases hy with rfl | rfl | rfl <;> rcases hz with rfl | rfl | rfl <;> exact ih'
theorem g_gate_bent {v : Vs} {n : Nat} {r : Nat → Int32} (h : MS v n r) (hw : WFc r) {w : Nat} (h1 : NI r ≤ w) (h2 : w < NW r) {c : Nat → Nat} (hc : ∀ j, j < w → v.2.1 8 j = nI (c j) ∧ c j ≤ 2) : f_X8_gate_bent v (nI w) = some (nI (gval r w c)) := by
  refine ok_get ?_
  obtain ⟨h24, g1, g2, g3, g4, g5, g6, g7, g8⟩ := hw.gate h1 h2
  unfold f_X8_gate_bent
  refine ok_o1e ((g_kind h h24).trans (congrArg some g1)) ?_
  obtain ⟨q1, q2⟩ := g8 0 (by omega)
  refine ok_o1e ((g_operand (k := 0) h h24 (by omega)).trans (congrArg some q1)) ?_
  refine ok_gd (z_inb (by omega) (by omega)) ?_
  obtain ⟨p1, p2⟩ := hc _ q2
  rw [z_cl (by omega), p1]
  have ht := g_turned p2
  unfold gval
  have hk9 : kd r w = 6 ∨ kd r w = 7 ∨ kd r w = 8 ∨ kd r w ≤ 5 := by omega
  rcases hk9 with q | q | q | q
  · rw [q]
    simp (disch := omega) only [z_gt, z_o1, z_o2, z_o3, z_o4, z_o5, z_o6, z_o7, z_o8, z_o9, z_bn, z_jn, nI_add, z_mul, z_sub, z_div, Nat.not_lt_zero, z_cl, z_le, z_lt, z_eq, z_inb, z_nz, z_isB0, z_notJ, z_notI, z_isB1, z_m1, z_pos, z_pos', z_nlt, z_nle', z_m1le, z_m1a, z_nle, z_sI0, z_sI1, z_sI2, z_sI3, z_sJ0, z_sJ1, z_sJ2, z_sJ3, z_sF0, z_sF1, z_sF2, z_sA0, z_sA1, z_sA2, z_sA3, z_sAA, z_sIA, ↓reduceIte, Nat.reduceEqDiff, Nat.reduceLeDiff, Nat.reduceLT, z_l0, z_l1, z_l2, z_l3, z_l4, z_l5, z_l6, z_l7, z_l8, z_l9, z_l10, z_l11, z_l12, z_l13, z_l14, z_l15, z_l16, z_l17, z_l18, z_l19, z_l20, z_l21, z_l22, z_l23, z_l24, z_l25, z_l26, z_l27, z_l28, z_l32, z_l48, z_l56, z_l57, z_l59, z_l63, z_l64, z_l96, z_l97, z_l122, z_l127, z_l152, z_l158, z_l182, z_l255, z_l256, z_l310, z_l342, z_l406, z_l440, z_l729, z_l800, z_l3960, z_l14336, z_l14592, z_l100000, ht]
    exact ok_some rfl
  · rw [q]
    simp (disch := omega) only [z_gt, z_o1, z_o2, z_o3, z_o4, z_o5, z_o6, z_o7, z_o8, z_o9, z_bn, z_jn, nI_add, z_mul, z_sub, z_div, Nat.not_lt_zero, z_cl, z_le, z_lt, z_eq, z_inb, z_nz, z_isB0, z_notJ, z_notI, z_isB1, z_m1, z_pos, z_pos', z_nlt, z_nle', z_m1le, z_m1a, z_nle, z_sI0, z_sI1, z_sI2, z_sI3, z_sJ0, z_sJ1, z_sJ2, z_sJ3, z_sF0, z_sF1, z_sF2, z_sA0, z_sA1, z_sA2, z_sA3, z_sAA, z_sIA, ↓reduceIte, Nat.reduceEqDiff, Nat.reduceLeDiff, Nat.reduceLT, z_l0, z_l1, z_l2, z_l3, z_l4, z_l5, z_l6, z_l7, z_l8, z_l9, z_l10, z_l11, z_l12, z_l13, z_l14, z_l15, z_l16, z_l17, z_l18, z_l19, z_l20, z_l21, z_l22, z_l23, z_l24, z_l25, z_l26, z_l27, z_l28, z_l32, z_l48, z_l56, z_l57, z_l59, z_l63, z_l64, z_l96, z_l97, z_l122, z_l127, z_l152, z_l158, z_l182, z_l255, z_l256, z_l310, z_l342, z_l406, z_l440, z_l729, z_l800, z_l3960, z_l14336, z_l14592, z_l100000]
    exact ok_some rfl
  · have e3 : few (kd r w) = 3 := by rw [q]; rfl
    obtain ⟨a1, a2⟩ := g8 1 (by omega)
    obtain ⟨b1, b2⟩ := g8 2 (by omega)
    obtain ⟨c1, c2⟩ := hc _ a2
    obtain ⟨d1, d2⟩ := hc _ b2
    have oa := (g_operand (k := 1) h h24 (by omega)).trans (congrArg some a1)
    have ob := (g_operand (k := 2) h h24 (by omega)).trans (congrArg some b1)
    rw [q]
    simp (disch := omega) only [z_gt, z_o1, z_o2, z_o3, z_o4, z_o5, z_o6, z_o7, z_o8, z_o9, z_bn, z_jn, nI_add, z_mul, z_sub, z_div, Nat.not_lt_zero, z_cl, z_le, z_lt, z_eq, z_inb, z_nz, z_isB0, z_notJ, z_notI, z_isB1, z_m1, z_pos, z_pos', z_nlt, z_nle', z_m1le, z_m1a, z_nle, z_sI0, z_sI1, z_sI2, z_sI3, z_sJ0, z_sJ1, z_sJ2, z_sJ3, z_sF0, z_sF1, z_sF2, z_sA0, z_sA1, z_sA2, z_sA3, z_sAA, z_sIA, ↓reduceIte, Nat.reduceEqDiff, Nat.reduceLeDiff, Nat.reduceLT, z_l0, z_l1, z_l2, z_l3, z_l4, z_l5, z_l6, z_l7, z_l8, z_l9, z_l10, z_l11, z_l12, z_l13, z_l14, z_l15, z_l16, z_l17, z_l18, z_l19, z_l20, z_l21, z_l22, z_l23, z_l24, z_l25, z_l26, z_l27, z_l28, z_l32, z_l48, z_l56, z_l57, z_l59, z_l63, z_l64, z_l96, z_l97, z_l122, z_l127, z_l152, z_l158, z_l182, z_l255, z_l256, z_l310, z_l342, z_l406, z_l440, z_l729, z_l800, z_l3960, z_l14336, z_l14592, z_l100000, oa, ob, c1, d1]
    generalize c (op r w 0) = x at p2 ⊢
    generalize c (op r w 1) = y at c2 ⊢
    generalize c (op r w 2) = z at d2 ⊢
    have hx : x = 0 ∨ x = 1 ∨ x = 2 := by omega
    have hy : y = 0 ∨ y = 1 ∨ y = 2 := by omega
    have hz : z = 0 ∨ z = 1 ∨ z = 2 := by omega
    rcases hx with rfl | rfl | rfl <;> rcases hy with rfl | rfl | rfl <;> rcases hz with rfl | rfl | rfl <;> exact ok_some rfl
  · rw [if_neg (show ¬ kd r w = 6 by omega), if_neg (show ¬ kd r w = 7 by omega), if_neg (show ¬ kd r w = 8 by omega)]
    have hF := fun t h20 => g_fold_bent h hw h1 h2 hc q (t20 := t) h20
    generalize fin2 (kd r w) (gfold (kd r w) (fun k => c (op r w k)) (hv r w - 1)) = y at hF ⊢
    have hk6 : kd r w = 0 ∨ kd r w = 1 ∨ kd r w = 2 ∨ kd r w = 3 ∨ kd r w = 4 ∨ kd r w = 5 := by omega
    rcases hk6 with q | q | q | q | q | q <;> rw [q] at hF ⊢ <;> simp (disch := omega) only [z_gt, z_o1, z_o2, z_o3, z_o4, z_o5, z_o6, z_o7, z_o8, z_o9, z_bn, z_jn, nI_add, z_mul, z_sub, z_div, Nat.not_lt_zero, z_cl, z_le, z_lt, z_eq, z_inb, z_nz, z_isB0, z_notJ, z_notI, z_isB1, z_m1, z_pos, z_pos', z_nlt, z_nle', z_m1le, z_m1a, z_nle, z_sI0, z_sI1, z_sI2, z_sI3, z_sJ0, z_sJ1, z_sJ2, z_sJ3, z_sF0, z_sF1, z_sF2, z_sA0, z_sA1, z_sA2, z_sA3, z_sAA, z_sIA, ↓reduceIte, Nat.reduceEqDiff, Nat.reduceLeDiff, Nat.reduceLT, z_l0, z_l1, z_l2, z_l3, z_l4, z_l5, z_l6, z_l7, z_l8, z_l9, z_l10, z_l11, z_l12, z_l13, z_l14, z_l15, z_l16, z_l17, z_l18, z_l19, z_l20, z_l21, z_l22, z_l23, z_l24, z_l25, z_l26, z_l27, z_l28, z_l32, z_l48, z_l56, z_l57, z_l59, z_l63, z_l64, z_l96, z_l97, z_l122, z_l127, z_l152, z_l158, z_l182, z_l255, z_l256, z_l310, z_l342, z_l406, z_l440, z_l729, z_l800, z_l3960, z_l14336, z_l14592, z_l100000] <;> exact hF _ rfl
