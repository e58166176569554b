/-! the three tests, and the whole law -/
set_option maxRecDepth 100000 in
set_option maxHeartbeats 1000000 in
theorem s_458 {L : Nat} {X : Nat → Int32} (hL : L ≤ 260) {r5 r132 t136 : Int32} (h5 : (2 : Int32) + r5 = nI (pI L X)) (hnf : (2 : Int32) * r132 + t136 = nI (NF (pQ L X))) {vF vC vT vRT vG vB vM vK vP vQ : Vs} {vH : Hv} (hG : GR (pQ L X) vC vT) (hF : FI (pQ L X) vF vRT vG (sF zV 4 4)) (hH : HQ vH) (hm : RM (pQ L X) vM vK vP vQ) {kc ks : Nat} (hkc : kc ≤ 1000) (hks : ks ≤ 60000) :
    Ok (lp (f_L_law_L458 L X r5 vK vQ vP vM r132 t136 vC) (fun _ _ _ _ _ _ _ _ _ => none) FU (0 : Int32) vF vT vRT vG vB vH kc ks) (fun _ => True) := by
  obtain ⟨⟨i2, i3⟩, ⟨g3, g6⟩, hK, hf1, hf2, hpo, hn4, hn1⟩ := p_ok L X
  obtain ⟨hw, ht, hC, hT⟩ := hG
  refine zl9 (I := fun m x u te rt ge be h c s => ∃ t r, x = nI t ∧ t ≤ 3 ∧ NT r = t ∧ (∀ k, k < 182 → k ≠ 4 → r k = pQ L X k) ∧ WFc r ∧ WFt r ∧ RC r vC ∧ RT r te ∧ FI r u rt ge (sF zV 4 4) ∧ HQ h ∧ c ≤ 1000 + 2001 * t ∧ s ≤ 60000 + 13003 * t ∧ m = 3 - t) ?_ FU 3 _ _ _ _ _ _ _ _ _ (by unfold FU; omega) ⟨0, pQ L X, rfl, by omega, (pQ_is L X).2.2.2.1, fun _ _ _ => rfl, hw, ht, hC, hT, hF, hH, by omega, by omega, by omega⟩
  rintro m x u te rt ge be h c s self ⟨t, r, rfl, hle, hNT, hlo, hw', ht', hC', hT', hF', hH', hc, hs, rfl⟩ ih
  have hm' : RM r vM vK vP vQ := hm.of hw hlo
  unfold f_L_law_L458
  rw [z_l3]
  by_cases hb : 3 ≤ t
  · rw [ift hb (by omega)]
    have eNF : NF r = NF (pQ L X) := by
      show 2 * nn (r 1) + nn (r 3) = 2 * nn (pQ L X 1) + nn (pQ L X 3)
      rw [hlo 1 (by omega) (by omega), hlo 3 (by omega) (by omega)]
    exact s_611 hw' hC' hF' hm' (by rw [eNF]; exact hnf) (by omega) (by omega)
  · rw [iff_ hb (by omega), h5, z_cl (show pI L X < 2147483648 by omega)]
    refine ok_gd (decide_eq_true ⟨nI_pos (by omega), by omega, by omega, by omega⟩) (ok_bn ?_)
    exact s_478 hL h5 hlo (by omega) hNT hw' ht' hC' hT' hF' hH' hm' (by omega) (by omega) (fun s' vF' vT' vRT' vG' vB' vH' kc' ks' a1 a2 a3 a4 a5 a6 a7 a8 a9 aa => ih _ _ _ _ _ _ _ _ _ _ (by omega) ⟨t + 1, s', rfl, by omega, a2, a1, a3, a4, a5, a6, a7, a8, by omega, by omega, rfl⟩)
theorem pT_read (L : Nat) (X : Nat → Int32) (vD : Vs) (M : Nat) (h1 : vD.1 1 = nI M) (h2 : (pT L X).length ≤ M) (h3 : M ≤ 800) (h4 : ∀ i, i < M → vD.2.1 3 i = nI (BT (pT L X) i) ∧ BT (pT L X) i < 256) : ∃ vD' vE' vU', f_X5_read vD cV1 zV (nI (pT L X).length) = some (nI 0, vD', vE', vU') ∧ GR (pQ L X) vE' vU' := by
  obtain ⟨⟨i2, i3⟩, ⟨g3, g6⟩, hK, hf1, hf2, hpo, hn4, hn1⟩ := p_ok L X
  obtain ⟨a, b, c, e, g, -⟩ := p_read (vC := cV1) (vT := zV) i2 i3 g3 g6 hK hf1 hf2 (fun g k _ _ => hpo g k) (b := pb L X) (pkb_2 L X).1 h1 h2 h3 h4 (fun j hj => by
    unfold BT
    rw [Nat.zero_add, if_pos hj])
  exact ⟨a, b, c, e, g⟩
set_option maxRecDepth 100000 in
set_option maxHeartbeats 1000000 in
theorem s_395 {L : Nat} {X : Nat → Int32} (hL : L ≤ 260) {r5 : Int32} (h5 : (2 : Int32) + r5 = nI (pI L X)) {vU vV vM vK vP vQ : Vs} {kc ks : Nat} (hB : BS vU vV (pT L X)) (hm : RM (pQ L X) vM vK vP vQ) (hkc : kc ≤ 300) (hks : ks ≤ 50000) : Ok (f_L_law_J395 L X r5 vK vQ vP vU vV vM kc ks) (fun _ => True) := by
  have hwi := hm.wires
  obtain ⟨⟨hM0, hM1⟩, hbr, -, -, -, hI2, hI3, hW3, hW6⟩ := id hm
  have hnfe : NF (pQ L X) = 2 * NW (pQ L X) + NB (pQ L X) := rfl
  have hBn : NB (pQ L X) ≤ 1 := by rcases hbr with h | h <;> omega
  unfold f_L_law_J395
  refine ok_gd (decide_eq_true ⟨by omega, by omega⟩) ?_
  rw [hwi, z_o1]
  refine ok_j1 (fun x => x = nI (NB (pQ L X))) (fun x hx => ?_) (fun k hk => ?_)
  · subst hx
    unfold f_L_law_J413
    refine ok_gd (decide_eq_true ⟨by omega, by omega⟩) (ok_gd (decide_eq_true ⟨by omega, by omega⟩) (ok_gd (decide_eq_true ⟨by omega, by omega⟩) (ok_o2 (b_toString hB) (fun vZ vY hz => ?_))))
    have hz : ZS vZ vY (pT L X) := hz
    obtain ⟨⟨r1, vF, vC, vT, vD, vE, vU', vH⟩, er, q1, q2, q3, q4, q5, q6⟩ := l_read hz (fun vD M h1 h2 h3 h4 => pT_read L X vD M h1 h2 h3 h4)
    have q1 : r1 = nI (NW (pQ L X)) := q1
    have q2 : GR (pQ L X) vC vT := q2
    have q3 : HQ vH := q3
    have q4 : vF.1 5 = nI 0 := q4
    have q5 : vF.1 6 = nI 0 := q5
    have q6 : vF.2 = zV.2 := q6
    refine ok_gd (decide_eq_true ⟨by omega, by omega⟩) ?_
    rw [er, z_o8]
    refine ok_gd (decide_eq_true ⟨by omega, by omega⟩) ?_
    rw [hwi, z_o1, q1, iet rfl]
    refine ok_gd (decide_eq_true ⟨by omega, by omega⟩) ?_
    have hst : f_X7_state vF vC vT 342 (sF zV 4 1) zV zV (3 : Int32) = some (0, nI (NF (pQ L X)), vF, sF zV 4 1, zV, zV) := by
      unfold f_X7_state
      rw [if_neg (by decide), if_neg (by decide), if_neg (by decide), if_pos rfl, x_faultCount q2.2.2.1, z_o1]
    have hnf : (2 : Int32) * nI (NW (pQ L X)) + nI (NB (pQ L X)) = nI (NF (pQ L X)) := by
      rw [z_l2, z_mul, nI_add, ← hnfe]
    rw [hst, z_o6, if_pos rfl, hnf, iet rfl]
    refine s_458 hL h5 hnf q2 ⟨fun z => absurd q5 z, fun z => absurd q4 z, rfl, rfl, fun j _ => ?_⟩ q3 hm (by omega) (by omega)
    rw [q6]
    rfl
  · rcases hbr with ⟨h, h6⟩ | ⟨h, h6, -⟩
    · rw [h6, if_neg (show ¬ (0 : Int32) ≤ im1 by decide)]
      exact hk _ (by rw [h]; rfl)
    · rw [h6, if_pos (show (0 : Int32) ≤ nI 0 by decide)]
      exact hk _ (by rw [h]; rfl)
theorem s_law {L : Nat} (X : Nat → Int32) (hL : L ≤ 260) : f_L_law L X = some () := by
  obtain ⟨⟨⟩, e, -⟩ := s_law0 (X := X) hL (Q := fun _ => True) (fun r5 vU vV vM vK vP vQ kc ks h5 hB hm h1 h2 => s_395 hL h5 hB hm h1 h2)
  exact e
