/-! arguments in their ranges or not; what a question keeps -/
theorem in_or (x : Int32) {n : Nat} (hn : n < 2147483648) : (∃ w, w < n ∧ x = nI w) ∨ (x < 0 ∨ nI n ≤ x) := by
  by_cases h : x < 0
  · exact Or.inr (Or.inl h)
  · obtain ⟨j, hj, rfl⟩ := nI_of h
    by_cases h2 : j < n
    · exact Or.inl ⟨j, h2, rfl⟩
    · exact Or.inr (Or.inr (nI_le (by omega) (by omega)))
/-- a question keeps rows, text and what is counted -/
def QM (v v' : Vs) : Prop := v'.1 3 = v.1 3 ∧ v'.1 4 = v.1 4 ∧ v'.1 12 = v.1 12 ∧ v'.1 16 = v.1 16 ∧ v'.2.1 1 = v.2.1 1 ∧ v'.2.1 11 = v.2.1 11
theorem QM.rf (v : Vs) : QM v v := ⟨rfl, rfl, rfl, rfl, rfl, rfl⟩
theorem QM.tr {a b c : Vs} (h : QM a b) (h2 : QM b c) : QM a c := ⟨h2.1.trans h.1, h2.2.1.trans h.2.1, h2.2.2.1.trans h.2.2.1, h2.2.2.2.1.trans h.2.2.2.1, h2.2.2.2.2.1.trans h.2.2.2.2.1, h2.2.2.2.2.2.trans h.2.2.2.2.2⟩
theorem QM.th (v : Vs) (x : Int32) : QM v (sF v 0 x) := ⟨rfl, rfl, rfl, rfl, rfl, rfl⟩
theorem QM.sc {l : List Nat} {v v' : Vs} (h : SC l v v') (h1 : 1 ∉ l) (h2 : 11 ∉ l) : QM v v' := by
  obtain ⟨a, b⟩ := h
  exact ⟨by rw [a], by rw [a], by rw [a], by rw [a], b 1 h1, b 11 h2⟩
theorem MS.qm {v v' : Vs} {n : Nat} {r : Nat → Int32} (h : MS v n r) (hq : QM v v') : MS v' n r := by
  refine ⟨hq.1.trans h.1, h.2.1, fun k hk => ?_⟩
  rw [hq.2.2.2.2.1]
  exact h.2.2 k hk
theorem pos_n {w : Nat} (h : w < 2147483648) : ¬ nI w < 0 := nI_pos h
theorem x_wire_y {r : Nat → Int32} (hw : WFc r) {vF vC : Vs} (hC : RC r vC) {w : Nat} (h1 : w < NW r) : f_X7_checkWire vF vC (nI w) = some 0 := by
  have hn := hw.nf
  unfold f_X7_checkWire
  rw [z_jn, hC.1.2.1, if_neg (pos_n (by omega)), ilt h1 (by omega)]
theorem x_wire_n {r : Nat → Int32} {vF vC : Vs} (hC : RC r vC) {x : Int32} (h1 : x < 0 ∨ nI (NW r) ≤ x) : f_X7_checkWire vF vC x = some 2 := by
  unfold f_X7_checkWire
  rw [z_jn, hC.1.2.1]
  by_cases h : x < 0
  · rw [if_pos h]
  · rw [if_neg h, if_neg]
    rcases h1 with h1 | h1
    · exact absurd h1 h
    · exact Int32.not_lt.mpr h1
theorem x_test_y {r : Nat → Int32} (ht : WFt r) {vF vT : Vs} (hT : RT r vT) {w : Nat} (h1 : w < NT r) : f_X7_checkTest vF vT (nI w) = some 0 := by
  have hn := ht.1.2
  unfold f_X7_checkTest
  rw [z_jn, hT.1, if_neg (pos_n (by omega)), ilt h1 (by omega)]
theorem x_test_n {r : Nat → Int32} {vF vT : Vs} (hT : RT r vT) {x : Int32} (h1 : x < 0 ∨ nI (NT r) ≤ x) : f_X7_checkTest vF vT x = some 2 := by
  unfold f_X7_checkTest
  rw [z_jn, hT.1]
  by_cases h : x < 0
  · rw [if_pos h]
  · rw [if_neg h, if_neg]
    rcases h1 with h1 | h1
    · exact absurd h1 h
    · exact Int32.not_lt.mpr h1
theorem x_fault_y {r : Nat → Int32} (hw : WFc r) {vF vC : Vs} (hC : RC r vC) {w : Nat} (h1 : w < NF r) : f_X7_checkFault vF vC (nI w) = some 0 := by
  have hn := hw.nf
  unfold f_X7_checkFault
  rw [z_jn, x_faultCount hC, z_o1, if_neg (pos_n (by omega)), ilt h1 (by omega)]
theorem x_fault_n {r : Nat → Int32} {vF vC : Vs} (hC : RC r vC) {x : Int32} (h1 : x < 0 ∨ nI (NF r) ≤ x) : f_X7_checkFault vF vC x = some 2 := by
  unfold f_X7_checkFault
  rw [z_jn, x_faultCount hC, z_o1]
  by_cases h : x < 0
  · rw [if_pos h]
  · rw [if_neg h, if_neg]
    rcases h1 with h1 | h1
    · exact absurd h1 h
    · exact Int32.not_lt.mpr h1
/-- the class's rows, as they stand or are to be made -/
def FI (r : Nat → Int32) (vF vRT vG vRF : Vs) : Prop := (vF.1 6 ≠ 0 → TR r vRT vG) ∧ (vF.1 5 ≠ 0 → FR r vRF) ∧ vRT.1 4 = nI 1 ∧ vRF.1 4 = nI 4 ∧ ∀ j, j < 729 → vF.2.1 8 j = nI 0
theorem y_refreshTest {r : Nat → Int32} (hw : WFc r) (ht : WFt r) {vF vC vT vRT vG vB vRF : Vs} (hC : RC r vC) (hT : RT r vT) (hF : FI r vF vRT vG vRF) :
    ∃ vF' vRT' vG' vB', f_X7_refreshTestRows vF vC vT 342 vRT vG vB = some (vF', vRT', vG', vB') ∧ FI r vF' vRT' vG' vRF ∧ TR r vRT' vG' ∧ vF'.2 = vF.2 ∧ vF'.1 5 = vF.1 5 ∧ vF'.1 6 ≠ 0 := by
  obtain ⟨⟨a, b, c, d⟩, e, h1, h2, h3, h4, h5⟩ := x_refreshTest hw ht (vB := vB) hC hT hF.2.2.1 hF.1
  refine ⟨a, b, c, d, e, ⟨fun _ => h4, fun q => hF.2.1 ?_, h5, hF.2.2.2.1, fun j hj => ?_⟩, h4, h1, h2 5 (by decide), h3⟩
  · rw [← h2 5 (by decide)]; exact q
  · show a.2.1 8 j = _
    have h1' : a.2 = vF.2 := h1
    rw [h1']
    exact hF.2.2.2.2 j hj
theorem y_refreshFull {r : Nat → Int32} (hw : WFc r) {vF vC vRT vG vRF vGF vBF : Vs} (hC : RC r vC) (hF : FI r vF vRT vG vRF) :
    ∃ vF' vRF' vGF' vBF', f_X7_refreshFullRows vF vC 1368 vRF vGF vBF = some (vF', vRF', vGF', vBF') ∧ FI r vF' vRT vG vRF' ∧ FR r vRF' ∧ vF'.2 = vF.2 ∧ vF'.1 6 = vF.1 6 ∧ vF'.1 5 ≠ 0 := by
  obtain ⟨⟨a, b, c, d⟩, e, h1, h2, h3, h4, h5⟩ := x_refreshFull hw (vGF := vGF) (vBF := vBF) hC hF.2.2.2.1 hF.2.1
  refine ⟨a, b, c, d, e, ⟨fun q => hF.1 ?_, fun _ => h4, hF.2.2.1, h5, fun j hj => ?_⟩, h4, h1, h2 6 (by decide), h3⟩
  · rw [← h2 6 (by decide)]; exact q
  · show a.2.1 8 j = _
    have h1' : a.2 = vF.2 := h1
    rw [h1']
    exact hF.2.2.2.2 j hj
def thM (v : Vs) (c : Nat) : Vs := sF (sF v 0 (nI 0)) 0 (nI c)
theorem QM.tm (v : Vs) (c : Nat) : QM v (thM v c) := (QM.th _ _).tr (QM.th _ _)
theorem thM_0 (v : Vs) (c : Nat) : (thM v c).1 0 = nI c := z_sF1 _ _ _
