/-! the reference: its row, gates, values -/
def MS (v : Vs) (n : Nat) (r : Nat → Int32) : Prop := v.1 3 = nI n ∧ n < 9 ∧ ∀ k, k < 440 → v.2.1 1 (440 * n + k) = r k
theorem MS.sA {v : Vs} {n : Nat} {r : Nat → Int32} (h : MS v n r) (k : Nat) (f : Nat → Int32) (hk : 1 ≠ k) : MS (sA v k f) n r := by
  refine ⟨h.1, h.2.1, fun j hj => ?_⟩
  rw [z_sA3 v k f hk]
  exact h.2.2 j hj
theorem MS.sF {v : Vs} {n : Nat} {r : Nat → Int32} (h : MS v n r) (k : Nat) (x : Int32) (hk : 3 ≠ k) : MS (sF v k x) n r := by
  refine ⟨?_, h.2.1, h.2.2⟩
  rw [z_sF2 v k x hk]
  exact h.1
abbrev NF (r : Nat → Int32) : Nat := 2 * NW r + NB r
theorem WFc.nf {r : Nat → Int32} (hw : WFc r) : NF r ≤ 56 ∧ NW r ≤ 24 ∧ NI r ≤ 8 ∧ NO r ≤ 6 ∧ NB r ≤ 8 ∧ NF r = 2 * NW r + NB r := by
  have h0 : NF r = 2 * NW r + NB r := rfl
  have h1 := hw.1.2
  have h2 := hw.2.1.2
  have h3 := hw.2.2.1.2
  have h4 := hw.2.2.2.1.2
  omega
theorem WFc.gate {r : Nat → Int32} (hw : WFc r) {w : Nat} (h1 : NI r ≤ w) (h2 : w < NW r) : w < 24 ∧ r (8 + w) = nI (kd r w) ∧ kd r w ≤ 8 ∧ r (32 + w) = nI (hv r w) ∧ few (kd r w) ≤ hv r w ∧ hv r w ≤ mst (kd r w) ∧ 1 ≤ hv r w ∧ hv r w ≤ 4 ∧ ∀ k, k < hv r w → r (56 + 4 * w + k) = nI (op r w k) ∧ op r w k < w := by
  obtain ⟨⟨a1, a2⟩, b1, b2, b3⟩ := hw.2.2.2.2.2.1 w h1 h2
  have h3 := few_1 (kd r w)
  have h4 := mst_4 (kd r w)
  have h5 := hw.nf
  exact ⟨by omega, a1, a2, b1, b2, b3, by omega, by omega, fun k hk => hw.2.2.2.2.2.2.1 w k h1 h2 hk⟩
