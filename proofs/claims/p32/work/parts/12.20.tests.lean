/-! tellsApart, worth -/
theorem y_foundTests {r : Nat → Int32} (hw : WFc r) (ht : WFt r) {vF vC vT vRT vG vB vRF : Vs} (hC : RC r vC) (hT : RT r vT) (hF : FI r vF vRT vG vRF) :
    ∃ all vF' vRT' vG' vB', f_X7_listFoundByTests vF vC vT 342 vRT vG vB = some (all, vF', vRT', vG', vB') ∧ FI r vF' vRT' vG' vRF ∧ TR r vRT' vG' ∧ (∀ t f, t < NT r → f < 64 → bJ (vF'.2.2 9 t) f = (decide (f < NF r) && FD r t f)) ∧ (∀ f, f < 64 → (bJ all f = true ↔ ∃ t, t < NT r ∧ f < NF r ∧ FD r t f = true)) ∧ vF'.2.1 = vF.2.1 ∧ vF'.1 5 = vF.1 5 ∧ vF'.1 6 ≠ 0 ∧ ∀ j, j ≠ 9 → vF'.2.2 j = vF.2.2 j := by
  have h16 := ht.1.2
  obtain ⟨vF1, vRT', vG', vB', e, hF', hTR, k1, k2, k3⟩ := y_refreshTest hw ht (vB := vB) hC hT hF
  obtain ⟨⟨all, vF2⟩, e2, hJ, hb, ha⟩ := x_listFound_t hw (vF := vF1) hC hF'.2.2.1 (ask := tq r) (n := NT r) (by omega) (by omega) (fun N i hi => tq_2 ht N i hi) (fun k hk => by
    have : k = 0 := by omega
    subst this
    have e : (fun l => tq r (64 * 0 + l)) = tq r := by
      funext l
      rw [Nat.mul_zero, Nat.zero_add]
    rw [e]
    exact hTR.1)
  have hb' : ∀ t f, t < NT r → f < 64 → bJ (vF2.2.2 9 t) f = (decide (f < NF r) && FD r t f) := fun t f h1 h2 => by
    have := hb t f h1 h2
    rw [tq_t h1] at this
    exact this
  obtain ⟨j1, j2, j3⟩ := hJ
  refine ⟨all, vF2, vRT', vG', vB', ?_, ⟨fun q => hF'.1 ?_, fun q => hF'.2.1 ?_, hF'.2.2.1, hF'.2.2.2.1, fun j hj => ?_⟩, hTR, hb', fun f hf => ?_, ?_, ?_, ?_, fun j hj => ?_⟩
  · unfold f_X7_listFoundByTests
    rw [hT.1, e, z_o4, e2, z_o2]
  · rw [← show vF2.1 = vF1.1 from j1]; exact q
  · rw [← show vF2.1 = vF1.1 from j1]; exact q
  · rw [show vF2.2.1 = vF1.2.1 from j2]
    exact hF'.2.2.2.2 j hj
  · rw [ha f hf]
    constructor
    · rintro ⟨t, h1, h2⟩
      rw [hb' t f h1 hf] at h2
      simp at h2
      exact ⟨t, h1, h2⟩
    · rintro ⟨t, h1, h2, h3⟩
      exact ⟨t, h1, by rw [hb' t f h1 hf, h3]; simp [h2]⟩
  · rw [show vF2.2.1 = vF1.2.1 from j2, k1]
  · rw [show vF2.1 = vF1.1 from j1]; exact k2
  · rw [show vF2.1 = vF1.1 from j1]; exact k3
  · rw [show vF2.2.2 j = vF1.2.2 j from j3 j hj, k1]
