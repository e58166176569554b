/-! addTest, removeTest, setKind, see, forget, undo -/
/-- all that ties the class to the reference -/
def INV (vM vF vC vT vRT vG vRF vD : Vs) (vH : Hv) : Prop := ∃ n, vM.1 3 = nI n ∧ n < 9 ∧ GR (rwv vM n) vC vT ∧ FI (rwv vM n) vF vRT vG vRF ∧ HX vM n vH ∧ TX vM vD
theorem FI.none {r s : Nat → Int32} {vF vF' vRT vG vRF : Vs} (h : FI r vF vRT vG vRF) (h6 : vF'.1 6 = 0) (h5 : vF'.1 5 = 0) (h8 : vF'.2.1 8 = vF.2.1 8) : FI s vF' vRT vG vRF := ⟨fun q => absurd h6 q, fun q => absurd h5 q, h.2.2.1, h.2.2.2.1, fun j hj => by rw [h8]; exact h.2.2.2.2 j hj⟩
/-- full tests' rows hang on the circuit alone -/
theorem bits_of {r s : Nat → Int32} (hw : WFc r) (h : ∀ k, k < 182 → k ≠ 4 → s k = r k) (ask : Nat → Nat) : (∀ w, w < NW r → good s ask w = good r ask w) ∧ ∀ p, p ≤ NF r → ∀ w, w < NW r → bad s ask p w = bad r ask p w := by
  have hn := hw.nf
  have hws : WFc s := hw.of h
  have e0 : NI s = NI r := by show nn (s 0) = nn (r 0); rw [h 0 (by omega) (by omega)]
  have e1 : NW s = NW r := by show nn (s 1) = nn (r 1); rw [h 1 (by omega) (by omega)]
  have e3 : NB s = NB r := by show nn (s 3) = nn (r 3); rw [h 3 (by omega) (by omega)]
  have hg : ∀ w c d, NI r ≤ w → w < NW r → (∀ k, k < hv r w → c (op r w k) = d (op r w k)) → gval s w c = gval r w d := fun w c d h1 h2 hcd => by
    obtain ⟨h24, g1, g2, g3, g4, g5, g6, g7, g8⟩ := hw.gate h1 h2
    have ek : kd s w = kd r w := by show nn (s (8 + w)) = nn (r (8 + w)); rw [h _ (by omega) (by omega)]
    have eh : hv s w = hv r w := by show nn (s (32 + w)) = nn (r (32 + w)); rw [h _ (by omega) (by omega)]
    have eo : ∀ k, k < hv r w → op s w k = op r w k := fun k hk => by show nn (s (56 + 4 * w + k)) = nn (r (56 + 4 * w + k)); rw [h _ (by omega) (by omega)]
    rw [← gval_cong hcd g4]
    unfold gval
    rw [ek, eh, eo 0 (by omega)]
    split
    · rfl
    · split
      · rfl
      · split
        · rename_i h8
          have e : few (kd r w) = 3 := by rw [h8]; rfl
          rw [eo 1 (by omega), eo 2 (by omega)]
        · rw [gfold_cong (hv r w - 1) (fun j hj => by rw [eo j (by omega)])]
  have hgood : ∀ n w, w < n → w < NW r → good s ask w = good r ask w := by
    intro n
    induction n with
    | zero => intro w h1; omega
    | succ n ih =>
      intro w h1 h2
      by_cases hi : w < NI r
      · rw [good_in hi, good_in (by rw [e0]; exact hi)]
      · rw [good_at hw hi h2, good_at hws (by rw [e0]; exact hi) (by rw [e1]; exact h2)]
        exact hg w _ _ (by omega) h2 (fun k hk => by
          have ho := (hw.2.2.2.2.2.2.1 w k (by omega) h2 hk).2
          exact ih _ (by omega) (by omega))
  refine ⟨fun w h2 => hgood (w + 1) w (by omega) h2, fun p hp => ?_⟩
  have ht : ∀ w, told s ask p w = told r ask p w := fun w => by
    unfold told
    rw [e1]
    by_cases h0 : p = 0
    · rw [if_pos h0, if_pos h0]
    · rw [if_neg h0, if_neg h0]
      by_cases h1 : p - 1 < 2 * NW r
      · rw [if_pos h1, if_pos h1]
      · rw [if_neg h1, if_neg h1]
        have hb := hw.2.2.2.2.2.2.2.2 (p - 1 - 2 * NW r) (by omega)
        have ea : ba s (p - 1 - 2 * NW r) = ba r (p - 1 - 2 * NW r) := by show nn (s _) = nn (r _); rw [h _ (by omega) (by omega)]
        have eb : bb s (p - 1 - 2 * NW r) = bb r (p - 1 - 2 * NW r) := by show nn (s _) = nn (r _); rw [h _ (by omega) (by omega)]
        have ek : bk s (p - 1 - 2 * NW r) = bk r (p - 1 - 2 * NW r) := by show nn (s _) = nn (r _); rw [h _ (by omega) (by omega)]
        rw [ea, eb, ek, hgood _ _ (Nat.lt_succ_self _) hb.2.1.2, hgood _ _ (Nat.lt_succ_self _) hb.2.2.2]
  have hbad : ∀ n w, w < n → w < NW r → bad s ask p w = bad r ask p w := by
    intro n
    induction n with
    | zero => intro w h1; omega
    | succ n ih =>
      intro w h1 h2
      cases hto : told r ask p w with
      | some x => rw [bad_some hto, bad_some (by rw [ht]; exact hto)]
      | none =>
        have hts : told s ask p w = none := by rw [ht]; exact hto
        by_cases hi : w < NI r
        · rw [bad_in hto hi, bad_in hts (by rw [e0]; exact hi)]
        · rw [bad_at hw hto hi h2, bad_at hws hts (by rw [e0]; exact hi) (by rw [e1]; exact h2)]
          exact hg w _ _ (by omega) h2 (fun k hk => by
            have ho := (hw.2.2.2.2.2.2.1 w k (by omega) h2 hk).2
            exact ih _ (by omega) (by omega))
  exact fun w h2 => hbad (w + 1) w (by omega) h2
theorem RW.of {r s : Nat → Int32} (hw : WFc r) (h : ∀ k, k < 182 → k ≠ 4 → s k = r k) {v : Vs} {W k : Nat} {ask : Nat → Nat → Nat} (hR : RW r v W k ask) : RW s v W k ask := by
  have hn := hw.nf
  have e1 : NW s = NW r := by show nn (s 1) = nn (r 1); rw [h 1 (by omega) (by omega)]
  have e2 : NO s = NO r := by show nn (s 2) = nn (r 2); rw [h 2 (by omega) (by omega)]
  have e3 : NB s = NB r := by show nn (s 3) = nn (r 3); rw [h 3 (by omega) (by omega)]
  intro p hp o ho
  rw [e2] at ho
  have hp' : p ≤ NF r := by
    have : NF s = NF r := by show 2 * NW s + NB s = 2 * NW r + NB r; rw [e1, e3]
    omega
  have eo : ou s o = ou r o := by show nn (s (152 + o)) = nn (r (152 + o)); rw [h _ (by omega) (by omega)]
  refine (hR p hp' o ho).cong (fun l _ => ?_)
  rw [eo]
  exact ((bits_of hw h (ask l)).2 p hp' _ (hw.2.2.2.2.2.2.2.1 o ho).2).symm
theorem FR.of {r s : Nat → Int32} (hw : WFc r) (h : ∀ k, k < 182 → k ≠ 4 → s k = r k) {v : Vs} (hR : FR r v) : FR s v := by
  have e0 : NI s = NI r := by show nn (s 0) = nn (r 0); rw [h 0 (by omega) (by omega)]
  intro k hk
  have : fwords s = fwords r := by unfold fwords; rw [e0]
  rw [this] at hk
  exact (hR k hk).of hw h
/-- tests' rows are to be made anew -/
theorem FI.tests {r s : Nat → Int32} (hw : WFc r) (hs : ∀ k, k < 182 → k ≠ 4 → s k = r k) {vF vF' vRT vG vRF : Vs} (h : FI r vF vRT vG vRF) (h6 : vF'.1 6 = 0) (h5 : vF'.1 5 = vF.1 5) (h8 : vF'.2.1 8 = vF.2.1 8) : FI s vF' vRT vG vRF := ⟨fun q => absurd h6 q, fun q => (h.2.1 (by rw [← h5]; exact q)).of hw hs, h.2.2.1, h.2.2.2.1, fun j hj => by rw [h8]; exact h.2.2.2.2 j hj⟩
theorem areI_y {r : Nat → Int32} (hw : WFc r) {vF vC : Vs} (hC : RC r vC) {a : Nat} (h : a < 2 ^ NI r) : f_X7_areInputs vF vC (nI a) = some (nI 1) := by
  have hn := hw.nf
  unfold f_X7_areInputs
  rw [z_jn, hC.1.1, if_pos ((z_shr (by omega)).mpr ⟨a, h, rfl⟩)]
  rfl
theorem areI_n {r : Nat → Int32} (hw : WFc r) {vF vC : Vs} (hC : RC r vC) {x : Int32} (h : x < 0 ∨ nI (2 ^ NI r) ≤ x) : f_X7_areInputs vF vC x = some (nI 0) := by
  have hn := hw.nf
  have hf := fulls_256 hw
  unfold f_X7_areInputs
  rw [z_jn, hC.1.1, if_neg]
  · rfl
  · intro q
    obtain ⟨a, ha, rfl⟩ := (z_shr (by omega)).mp q
    rcases h with h | h
    · exact pos_n (by omega) h
    · exact nI_ge ha (by omega) h
theorem INV.th {vM vF vC vT vRT vG vRF vD : Vs} {vH : Hv} (h : INV vM vF vC vT vRT vG vRF vD vH) {vM' : Vs} (hq : QM vM vM') : INV vM' vF vC vT vRT vG vRF vD vH := by
  obtain ⟨n, a, b, c, d, e, f⟩ := h
  exact ⟨n, hq.1.trans a, b, by rw [rwv_qm hq]; exact c, by rw [rwv_qm hq]; exact d, e.qm hq, f.qm hq⟩
