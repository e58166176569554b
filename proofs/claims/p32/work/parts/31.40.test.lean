/-! the law's helper: one test, all wires, all faults -/
theorem l_toldOf {v : Nat} (h : v ≤ 2) : f_L_toldOf (nI (sv v)) = some (nI v) := by
  have : v = 0 ∨ v = 1 ∨ v = 2 := by omega
  rcases this with rfl | rfl | rfl <;> decide +kernel
theorem l_isTest {r : Nat → Int32} (hw : WFc r) (ht : WFt r) {vF vC vT vRT vG vB vRF : Vs} (hC : RC r vC) (hT : RT r vT) (hF : FI r vF vRT vG vRF) {vA vM vK vP vQ : Vs} (hm : RM r vM vK vP vQ) {t : Nat} (h1 : t < NT r) (hA : AQ r (tv r t) vA) :
    ∃ vF' vRT' vG' vB', f_L_isTest vF vC vT 342 vRT vG vB vA vM vK vP vQ (nI t) = some (nI 1, vF', vRT', vG', vB') ∧ FI r vF' vRT' vG' vRF := by
  have hv0 := m_values hw hm hA (p := 0) (by omega)
  have hwi := hm.wires
  have hg2 : ∀ j, j < NW r → good r (tv r t) j ≤ 2 := fun j hj => good_2 hw (fun i hi => (hA.2 i hi).2) (j + 1) j (by omega) hj
  have hb2 : ∀ p j, j < NW r → bad r (tv r t) p j ≤ 2 := fun p j hj => bad_2 hw (fun i hi => (hA.2 i hi).2) p (j + 1) j (by omega) hj
  obtain ⟨⟨hM0, hM1⟩, hbr, -, -, -, hI2, hI3, hW3, hW6⟩ := id hm
  have hnf : NF r = 2 * NW r + NB r := rfl
  have hB : NB r ≤ 1 := by rcases hbr with h | h <;> omega
  have hOk : Ok (f_L_isTest vF vC vT 342 vRT vG vB vA vM vK vP vQ (nI t)) (fun a => a.1 = nI 1 ∧ FI r a.2.1 a.2.2.1 a.2.2.2.1 vRF) := by
    unfold f_L_isTest
    refine ok_gd (by decide) (ok_o1 hv0 (fun vN hN => ?_))
    have hN : SVr r (tv r t) 0 (NW r) vN := hN
    rw [SVr, bad_0] at hN
    refine ok_gd (by decide) ?_
    rw [hwi, z_o1]
    refine ok_j1 (fun x => x = nI (NB r)) (fun x hx => ?_) (fun k hk => ?_)
    · subst hx
      refine zl5 (I := fun m x vF' vRT' vG' vB' => ∃ w, x = nI w ∧ w ≤ NW r ∧ FI r vF' vRT' vG' vRF ∧ m = NW r - w) ?_ FU (NW r) _ _ _ _ _ (by unfold FU; omega) ⟨0, rfl, by omega, hF, by omega⟩
      rintro m x vF vRT vG vB self ⟨w, rfl, hle, hF, rfl⟩ ih
      unfold f_L_isTest_L35
      refine ok_gd (by decide) ?_
      rw [hwi, z_o1]
      by_cases hb : NW r ≤ w
      · rw [ift hb (by omega)]
        refine zl8 (I := fun m x5 x7 vF' vRT' vG' vB' kc ks => ∃ f, x7 = nI f ∧ f ≤ NF r ∧ x5 = nI (cnt (FD r t) f) ∧ FI r vF' vRT' vG' vRF ∧ kc ≤ 20 + 100 * f ∧ ks ≤ 128 + 640 * f ∧ m = NF r - f) ?_ FU (NF r) _ _ _ _ _ _ _ _ (by unfold FU; omega) ⟨0, rfl, by omega, rfl, hF, by omega, by omega, by omega⟩
        rintro m x5 x7 vF vRT vG vB kc ks self2 ⟨f, rfl, hlf, rfl, hF, hkc, hks, rfl⟩ ih2
        unfold f_L_isTest_L73
        rw [z_l2, z_mul, nI_add, ← hnf]
        have hcl := cnt_le (FD r t) f
        by_cases hbf : NF r ≤ f
        · rw [ift hbf (by omega)]
          obtain rfl : f = NF r := by omega
          obtain ⟨vF', vRT', vG', vB', e, hF'⟩ := u_worth hw ht (vB := vB) hC hT hF h1
          refine ok_gd (decide_eq_true ⟨by omega, by omega⟩) (ok_o6e e ?_)
          rw [if_pos rfl, z_jn, iet rfl]
          exact ok_gd (by decide) (ok_gd (decide_eq_true ⟨by omega, by omega⟩) (ok_some ⟨rfl, hF'⟩))
        · rw [iff_ hbf (by omega)]
          have hv1 := m_values hw hm hA (p := f + 1) (by omega)
          refine ok_gd (decide_eq_true ⟨by omega, by omega⟩) (ok_o1 hv1 (fun vb hvb => ?_))
          have hvb : SVr r (tv r t) (f + 1) (NW r) vb := hvb
          refine ok_gd (decide_eq_true ⟨by omega, by omega⟩) ?_
          rw [hwi, z_o1, z_l1, z_sub (by omega)]
          obtain ⟨vF1, vRT1, vG1, vB1, e1, hF1⟩ := u_faulty hw ht (vB := vB) hC hT hF h1 (f := f) (by omega) (w := NW r - 1) (by omega)
          refine ok_gd (decide_eq_true ⟨by omega, by omega⟩) (ok_o6e e1 ?_)
          rw [if_pos rfl, hvb.1, z_cl (by omega), z_cl (by omega), hvb.2 _ (by omega)]
          refine ok_gd (z_inb (by omega) (by omega)) (ok_gd (decide_eq_true ⟨by omega, by omega⟩) (ok_o1e (l_toldOf (hb2 _ _ (by omega))) ?_))
          rw [z_jn, iet rfl]
          obtain ⟨vF2, vRT2, vG2, vB2, e2, hF2⟩ := u_finds hw ht (vB := vB1) hC hT hF1 h1 (f := f) (by omega)
          refine ok_gd (decide_eq_true ⟨by omega, by omega⟩) (ok_o6e e2 ?_)
          rw [if_pos rfl]
          have hfi := m_finds hw hm hA (f := f) (by omega)
          have h9 := FNo_2 r (tv r t) f
          refine ok_gd (decide_eq_true ⟨by omega, by omega⟩) (ok_o1e hfi ?_)
          rw [iet rfl]
          refine ok_gd (decide_eq_true ⟨by omega, by omega⟩) (ok_o1e hfi ?_)
          rw [z_jn]
          have ec : cnt (FD r t) (f + 1) = cnt (FD r t) f + (if FD r t f then 1 else 0) := rfl
          have ih' := ih2 (NF r - (f + 1)) (nI (cnt (FD r t) (f + 1))) (nI (f + 1)) vF2 vRT2 vG2 vB2 (kc + 20 + 40 + 40) (ks + 128 + 256 + 256) (by omega) ⟨f + 1, rfl, by omega, rfl, hF2, by omega, by omega, rfl⟩
          rw [ec] at ih'
          by_cases q2 : FNo r (tv r t) f = 2
          · rw [iet q2, nI_add]
            show Ok (self2 (nI _ + nI 1) _ _ _ _ _ _ _) _
            rw [nI_add]
            have hd : FD r t f = true := decide_eq_true q2
            rw [hd, if_pos rfl] at ih'
            exact ih'
          · rw [ief q2 (by omega) (by omega), nI_add]
            show Ok (self2 (nI _ + nI 0) _ _ _ _ _ _ _) _
            rw [nI_add]
            have hd : FD r t f = false := decide_eq_false q2
            rw [hd, if_neg (by decide)] at ih'
            exact ih'
      · rw [iff_ hb (by omega)]
        obtain ⟨vF', vRT', vG', vB', e, hF'⟩ := u_value hw ht (vB := vB) hC hT hF h1 (w := w) (by omega)
        refine ok_gd (by decide) (ok_o6e e ?_)
        rw [if_pos rfl, hN.1, z_cl (by omega), z_cl (by omega), hN.2 _ (by omega)]
        refine ok_gd (z_inb (by omega) (by omega)) (ok_gd (by decide) (ok_o1e (l_toldOf (hg2 _ (by omega))) ?_))
        rw [iet rfl, z_l1, nI_add]
        exact ih _ _ _ _ _ _ (by omega) ⟨w + 1, rfl, by omega, hF', rfl⟩
    · rcases hbr with ⟨h, h6⟩ | ⟨h, h6, -⟩
      · rw [h6, if_neg (show ¬ (0 : Int32) ≤ im1 by decide)]
        exact hk _ (by rw [h]; rfl)
      · rw [h6, if_pos (show (0 : Int32) ≤ nI 0 by decide)]
        exact hk _ (by rw [h]; rfl)
  obtain ⟨⟨a, b, c, d, e⟩, e1, e2, e3⟩ := hOk
  refine ⟨b, c, d, e, ?_, e3⟩
  rw [e1, show a = nI 1 from e2]
