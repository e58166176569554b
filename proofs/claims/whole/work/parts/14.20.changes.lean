/-! addTest, removeTest, setKind, see, forget, undo -/
/-- all that ties the class to the reference -/
def INV (vM vF vC vT vRT vG vRF vD : Vs) (vH : Hv) : Prop := ∃ n, vM.1 3 = nI n ∧ n < 9 ∧ GR (rwv vM n) vC vT ∧ FI (rwv vM n) vF vRT vG vRF ∧ HX vM n vH ∧ TX vM vD
theorem FI.none {r s : Nat → Int32} {vF vF' vRT vG vRF : Vs} (h : FI r vF vRT vG vRF) (h6 : vF'.1 6 = 0) (h5 : vF'.1 5 = 0) (h8 : vF'.2.1 8 = vF.2.1 8) : FI s vF' vRT vG vRF := ⟨fun q => absurd h6 q, fun q => absurd h5 q, h.2.2.1, h.2.2.2.1, fun j hj => by rw [h8]; exact h.2.2.2.2 j hj⟩
/-- full tests' rows hang on the circuit alone -/
theorem bits_of {r s : Nat → Int32} (hw : WFc r) (h : ∀ k, k < 182 → k ≠ 4 → s k = r k) (ask : Nat → Nat) : (∀ w, w < NW r → good s ask w = good r ask w) ∧ ∀ p, p ≤ NF r → ∀ w, w < NW r → bad s ask p w = bad r ask p w := by
  have hn := hw.nf
  have hws : WFc s := hw.of h
  have e0 : NI s = NI r := by show nn (s 0) = nn (r 0); rw [h 0 (by omega) (by omega)]
  have e1 : NW s = NW r := by show nn (s 1) = nn (r 1); rw [h 1 (by omega) (by omega)]
  have e3 : NB s = NB r := by show nn (s 3) = nn (r 3); rw [h 3 (by omega) (by omega)]
  have hg : ∀ w c d, NI r ≤ w → w < NW r → (∀ k, k < hv r w → c (op r w k) = d (op r w k)) → gval s w c = gval r w d := fun w c d h1 h2 hcd => by
    obtain ⟨h24, g1, g2, g3, g4, g5, g6, g7, g8⟩ := hw.gate h1 h2
    have ek : kd s w = kd r w := by show nn (s (8 + w)) = nn (r (8 + w)); rw [h _ (by omega) (by omega)]
    have eh : hv s w = hv r w := by show nn (s (32 + w)) = nn (r (32 + w)); rw [h _ (by omega) (by omega)]
    have eo : ∀ k, k < hv r w → op s w k = op r w k := fun k hk => by show nn (s (56 + 4 * w + k)) = nn (r (56 + 4 * w + k)); rw [h _ (by omega) (by omega)]
    rw [← gval_cong hcd g4]
    unfold gval
    rw [ek, eh, eo 0 (by omega)]
    split
    · rfl
    · split
      · rfl
      · split
        · rename_i h8
          have e : few (kd r w) = 3 := by rw [h8]; rfl
          rw [eo 1 (by omega), eo 2 (by omega)]
        · rw [gfold_cong (hv r w - 1) (fun j hj => by rw [eo j (by omega)])]
  have hgood : ∀ n w, w < n → w < NW r → good s ask w = good r ask w := by
    intro n
    induction n with
    | zero => intro w h1; omega
    | succ n ih =>
      intro w h1 h2
      by_cases hi : w < NI r
      · rw [good_in hi, good_in (by rw [e0]; exact hi)]
      · rw [good_at hw hi h2, good_at hws (by rw [e0]; exact hi) (by rw [e1]; exact h2)]
        exact hg w _ _ (by omega) h2 (fun k hk => by
          have ho := (hw.2.2.2.2.2.2.1 w k (by omega) h2 hk).2
          exact ih _ (by omega) (by omega))
  refine ⟨fun w h2 => hgood (w + 1) w (by omega) h2, fun p hp => ?_⟩
  have ht : ∀ w, told s ask p w = told r ask p w := fun w => by
    unfold told
    rw [e1]
    by_cases h0 : p = 0
    · rw [if_pos h0, if_pos h0]
    · rw [if_neg h0, if_neg h0]
      by_cases h1 : p - 1 < 2 * NW r
      · rw [if_pos h1, if_pos h1]
      · rw [if_neg h1, if_neg h1]
        have hb := hw.2.2.2.2.2.2.2.2 (p - 1 - 2 * NW r) (by omega)
        have ea : ba s (p - 1 - 2 * NW r) = ba r (p - 1 - 2 * NW r) := by show nn (s _) = nn (r _); rw [h _ (by omega) (by omega)]
        have eb : bb s (p - 1 - 2 * NW r) = bb r (p - 1 - 2 * NW r) := by show nn (s _) = nn (r _); rw [h _ (by omega) (by omega)]
        have ek : bk s (p - 1 - 2 * NW r) = bk r (p - 1 - 2 * NW r) := by show nn (s _) = nn (r _); rw [h _ (by omega) (by omega)]
        rw [ea, eb, ek, hgood _ _ (Nat.lt_succ_self _) hb.2.1.2, hgood _ _ (Nat.lt_succ_self _) hb.2.2.2]
  have hbad : ∀ n w, w < n → w < NW r → bad s ask p w = bad r ask p w := by
    intro n
    induction n with
    | zero => intro w h1; omega
    | succ n ih =>
      intro w h1 h2
      cases hto : told r ask p w with
      | some x => rw [bad_some hto, bad_some (by rw [ht]; exact hto)]
      | none =>
        have hts : told s ask p w = none := by rw [ht]; exact hto
        by_cases hi : w < NI r
        · rw [bad_in hto hi, bad_in hts (by rw [e0]; exact hi)]
        · rw [bad_at hw hto hi h2, bad_at hws hts (by rw [e0]; exact hi) (by rw [e1]; exact h2)]
          exact hg w _ _ (by omega) h2 (fun k hk => by
            have ho := (hw.2.2.2.2.2.2.1 w k (by omega) h2 hk).2
            exact ih _ (by omega) (by omega))
  exact fun w h2 => hbad (w + 1) w (by omega) h2
theorem RW.of {r s : Nat → Int32} (hw : WFc r) (h : ∀ k, k < 182 → k ≠ 4 → s k = r k) {v : Vs} {W k : Nat} {ask : Nat → Nat → Nat} (hR : RW r v W k ask) : RW s v W k ask := by
  have hn := hw.nf
  have e1 : NW s = NW r := by show nn (s 1) = nn (r 1); rw [h 1 (by omega) (by omega)]
  have e2 : NO s = NO r := by show nn (s 2) = nn (r 2); rw [h 2 (by omega) (by omega)]
  have e3 : NB s = NB r := by show nn (s 3) = nn (r 3); rw [h 3 (by omega) (by omega)]
  intro p hp o ho
  rw [e2] at ho
  have hp' : p ≤ NF r := by
    have : NF s = NF r := by show 2 * NW s + NB s = 2 * NW r + NB r; rw [e1, e3]
    omega
  have eo : ou s o = ou r o := by show nn (s (152 + o)) = nn (r (152 + o)); rw [h _ (by omega) (by omega)]
  refine (hR p hp' o ho).cong (fun l _ => ?_)
  rw [eo]
  exact ((bits_of hw h (ask l)).2 p hp' _ (hw.2.2.2.2.2.2.2.1 o ho).2).symm
theorem FR.of {r s : Nat → Int32} (hw : WFc r) (h : ∀ k, k < 182 → k ≠ 4 → s k = r k) {v : Vs} (hR : FR r v) : FR s v := by
  have e0 : NI s = NI r := by show nn (s 0) = nn (r 0); rw [h 0 (by omega) (by omega)]
  intro k hk
  have : fwords s = fwords r := by unfold fwords; rw [e0]
  rw [this] at hk
  exact (hR k hk).of hw h
/-- tests' rows are to be made anew -/
theorem FI.tests {r s : Nat → Int32} (hw : WFc r) (hs : ∀ k, k < 182 → k ≠ 4 → s k = r k) {vF vF' vRT vG vRF : Vs} (h : FI r vF vRT vG vRF) (h6 : vF'.1 6 = 0) (h5 : vF'.1 5 = vF.1 5) (h8 : vF'.2.1 8 = vF.2.1 8) : FI s vF' vRT vG vRF := ⟨fun q => absurd h6 q, fun q => (h.2.1 (by rw [← h5]; exact q)).of hw hs, h.2.2.1, h.2.2.2.1, fun j hj => by rw [h8]; exact h.2.2.2.2 j hj⟩
theorem areI_y {r : Nat → Int32} (hw : WFc r) {vF vC : Vs} (hC : RC r vC) {a : Nat} (h : a < 2 ^ NI r) : f_X7_areInputs vF vC (nI a) = some (nI 1) := by
  have hn := hw.nf
  unfold f_X7_areInputs
  rw [z_jn, hC.1.1, if_pos ((z_shr (by omega)).mpr ⟨a, h, rfl⟩)]
  rfl
theorem areI_n {r : Nat → Int32} (hw : WFc r) {vF vC : Vs} (hC : RC r vC) {x : Int32} (h : x < 0 ∨ nI (2 ^ NI r) ≤ x) : f_X7_areInputs vF vC x = some (nI 0) := by
  have hn := hw.nf
  have hf := fulls_256 hw
  unfold f_X7_areInputs
  rw [z_jn, hC.1.1, if_neg]
  · rfl
  · intro q
    obtain ⟨a, ha, rfl⟩ := (z_shr (by omega)).mp q
    rcases h with h | h
    · exact pos_n (by omega) h
    · exact nI_ge ha (by omega) h
theorem INV.th {vM vF vC vT vRT vG vRF vD : Vs} {vH : Hv} (h : INV vM vF vC vT vRT vG vRF vD vH) {vM' : Vs} (hq : QM vM vM') : INV vM' vF vC vT vRT vG vRF vD vH := by
  obtain ⟨n, a, b, c, d, e, f⟩ := h
  exact ⟨n, hq.1.trans a, b, by rw [rwv_qm hq]; exact c, by rw [rwv_qm hq]; exact d, e.qm hq, f.qm hq⟩
theorem q_addTest {vM vF vC vT vRT vG vRF vD : Vs} {vH : Hv} (hI : INV vM vF vC vT vRT vG vRF vD vH) (x1 x2 : Int32) :
    ∃ c x vF' vT' vH' y vM', f_X7_addTest vF vC vT vH x1 x2 = some (c, x, vF', vT', vH') ∧ f_X8_addTest vM x1 x2 = some (y, vM') ∧ INV vM' vF' vC vT' vRT vG vRF vD vH' ∧ ((c = 0 ∧ vM'.1 0 = nI 0 ∧ x = y) ∨ (c = 1 ∧ vM'.1 0 = nI 1) ∨ (c = 4 ∧ vM'.1 0 = nI 2)) := by
  obtain ⟨n, hn3, hn9, hG, hF, hH, hX⟩ := id hI
  obtain ⟨hw, ht, hC, hT⟩ := id hG
  have hn := hw.nf
  have hfl := fulls_256 hw
  have hM := MS.of hn3 hn9
  have M0 := hM.sF 0 (nI 0) (by decide)
  have t0 : (sF vM 0 (nI 0)).1 0 = nI 0 := z_sF1 _ _ _
  have gF := g_fulls M0 hw
  have bad1 : ∃ c x vF' vT' vH' y vM', (1, nI 0, vF, vT, vH) = (c, x, vF', vT', vH') ∧ (nI 0, thM vM 1) = (y, vM') ∧ INV vM' vF' vC vT' vRT vG vRF vD vH' ∧ ((c = 0 ∧ vM'.1 0 = nI 0 ∧ x = y) ∨ (c = 1 ∧ vM'.1 0 = nI 1) ∨ (c = 4 ∧ vM'.1 0 = nI 2)) := ⟨1, nI 0, vF, vT, vH, nI 0, thM vM 1, rfl, rfl, hI.th (QM.tm _ _), Or.inr (Or.inl ⟨rfl, thM_0 _ _⟩)⟩
  have close : ∀ p q, f_X7_addTest vF vC vT vH x1 x2 = some p → f_X8_addTest vM x1 x2 = some q → (∃ c x vF' vT' vH' y vM', p = (c, x, vF', vT', vH') ∧ q = (y, vM') ∧ INV vM' vF' vC vT' vRT vG vRF vD vH' ∧ ((c = 0 ∧ vM'.1 0 = nI 0 ∧ x = y) ∨ (c = 1 ∧ vM'.1 0 = nI 1) ∨ (c = 4 ∧ vM'.1 0 = nI 2))) → ∃ c x vF' vT' vH' y vM', f_X7_addTest vF vC vT vH x1 x2 = some (c, x, vF', vT', vH') ∧ f_X8_addTest vM x1 x2 = some (y, vM') ∧ INV vM' vF' vC vT' vRT vG vRF vD vH' ∧ ((c = 0 ∧ vM'.1 0 = nI 0 ∧ x = y) ∨ (c = 1 ∧ vM'.1 0 = nI 1) ∨ (c = 4 ∧ vM'.1 0 = nI 2)) := by
    rintro p q ep eq ⟨c, x, vF', vT', vH', y, vM', rfl, rfl, z⟩
    exact ⟨c, x, vF', vT', vH', y, vM', ep, eq, z⟩
  have rgt0 := g_right0 t0 (c := 1) (by omega) (by omega)
  rcases in_or x1 (n := 2 ^ NI (rwv vM n)) (by omega) with ⟨a, ha, rfl⟩ | h1
  · rcases in_or x2 (n := 2 ^ NI (rwv vM n)) (by omega) with ⟨b, hb, rfl⟩ | h2
    · have i1 := g_isIn_y ha (by omega)
      have i2 := g_isIn_y hb (by omega)
      rw [z_l0, z_l1, z_sub (by omega)] at i1 i2
      have hle : a &&& b < 2147483648 := by
        have : a &&& b ≤ a := Nat.and_le_left
        omega
      by_cases hab : a &&& b = 0
      · by_cases h16 : NT (rwv vM n) < 16
        · obtain ⟨v1, h1', e1, e2, m1, k1, k2, hHX⟩ := q_change (v := sF vM 0 (nI 0)) hn3 hn9 hG (hH.qm (QM.th _ _))
          obtain ⟨v2, s, e3, m2, K2, hA⟩ := h_adds m1 hw ht h16 (a := a) (b := b) (by omega) (by omega)
          obtain ⟨ws, ts, hlow, eNT, vT', e4, hT'⟩ := add_ok hw ht h16 hab hA hT
          have hrs : ∀ k, k < 440 → rwv v2 ((n + 1) % 9) k = s k := fun k hk => m2.rw hk
          have hlow2 : ∀ k, k < 182 → k ≠ 4 → rwv v2 ((n + 1) % 9) k = rwv vM n k := fun k h1 h2 => by rw [hrs k (by omega), hlow k h1 h2]
          have nis : NI s ≤ 8 := ws.nf.2.2.1
          have hws : WFc (rwv v2 ((n + 1) % 9)) := hw.of hlow2
          have hts : WFt (rwv v2 ((n + 1) % 9)) := ts.of nis (hrs 0 (by omega)) (hrs 4 (by omega)) (fun k _ h => hrs k h)
          have hTs : RT (rwv v2 ((n + 1) % 9)) vT' := hT'.of nis ts.1.2 (hrs 0 (by omega)) (hrs 2 (by omega)) (hrs 4 (by omega)) (fun k _ h => hrs k h)
          have g1 : f_X8_tests (sF vM 0 (nI 0)) = some (nI (NT (rwv vM n))) := g_tests M0 ht
          have g2 : f_X8_tests v2 = some (nI (NT s)) := g_tests m2 ts
          have t2 : v2.1 0 = nI 0 := by rw [K2.1, k1 0 (by decide) (by decide)]; exact t0
          have eTx : vT'.1 0 = nI (NT s) := hT'.1
          refine close (0, nI (NT (rwv vM n)), sF vF 6 (nI 0), vT', h1') (nI (NT (rwv vM n)), v2) ?_ ?_ ⟨0, _, _, _, _, _, _, rfl, rfl, ⟨(n + 1) % 9, m2.1, m2.2.1, ⟨hws, hts, hC.of hw hlow2, hTs⟩, FI.tests hw hlow2 hF (z_sF1 _ _ _) (z_sF2 _ _ _ (by decide)) rfl, hHX v2 K2, hX.same ?_ ?_ ?_⟩, Or.inl ⟨rfl, t2, rfl⟩⟩
          · unfold f_X7_addTest
            simp (disch := omega) only [z_gt, z_o1, z_o2, z_o3, z_o4, z_o5, z_o6, z_o7, z_o8, z_o9, z_bn, z_jn, nI_add, z_mul, z_sub, z_div, Nat.not_lt_zero, z_cl, z_le, z_lt, z_eq, z_inb, z_nz, z_isB0, z_notJ, z_notI, z_isB1, z_m1, z_pos, z_pos', z_nlt, z_nle', z_m1le, z_m1a, z_nle, z_sI0, z_sI1, z_sI2, z_sI3, z_sJ0, z_sJ1, z_sJ2, z_sJ3, z_sF0, z_sF1, z_sF2, z_sA0, z_sA1, z_sA2, z_sA3, z_sAA, z_sIA, ↓reduceIte, Nat.reduceEqDiff, Nat.reduceLeDiff, Nat.reduceLT, z_l0, z_l1, z_l2, z_l3, z_l4, z_l5, z_l6, z_l7, z_l8, z_l9, z_l10, z_l11, z_l12, z_l13, z_l14, z_l15, z_l16, z_l17, z_l18, z_l19, z_l20, z_l21, z_l22, z_l23, z_l24, z_l25, z_l26, z_l27, z_l28, z_l32, z_l48, z_l56, z_l57, z_l59, z_l63, z_l64, z_l96, z_l97, z_l122, z_l127, z_l152, z_l158, z_l182, z_l255, z_l256, z_l310, z_l342, z_l406, z_l440, z_l729, z_l800, z_l3960, z_l14336, z_l14592, z_l100000, areI_y hw hC ha, areI_y hw hC hb, nI_and2, hab, hT.1, h16, e2, e4, eTx, eNT, Nat.add_sub_cancel]
          · unfold f_X8_addTest
            have n16 : ¬ 16 ≤ NT (rwv vM n) := by omega
            simp (disch := omega) only [z_gt, z_o1, z_o2, z_o3, z_o4, z_o5, z_o6, z_o7, z_o8, z_o9, z_bn, z_jn, nI_add, z_mul, z_sub, z_div, Nat.not_lt_zero, z_cl, z_le, z_lt, z_eq, z_inb, z_nz, z_isB0, z_notJ, z_notI, z_isB1, z_m1, z_pos, z_pos', z_nlt, z_nle', z_m1le, z_m1a, z_nle, z_sI0, z_sI1, z_sI2, z_sI3, z_sJ0, z_sJ1, z_sJ2, z_sJ3, z_sF0, z_sF1, z_sF2, z_sA0, z_sA1, z_sA2, z_sA3, z_sAA, z_sIA, ↓reduceIte, Nat.reduceEqDiff, Nat.reduceLeDiff, Nat.reduceLT, z_l0, z_l1, z_l2, z_l3, z_l4, z_l5, z_l6, z_l7, z_l8, z_l9, z_l10, z_l11, z_l12, z_l13, z_l14, z_l15, z_l16, z_l17, z_l18, z_l19, z_l20, z_l21, z_l22, z_l23, z_l24, z_l25, z_l26, z_l27, z_l28, z_l32, z_l48, z_l56, z_l57, z_l59, z_l63, z_l64, z_l96, z_l97, z_l122, z_l127, z_l152, z_l158, z_l182, z_l255, z_l256, z_l310, z_l342, z_l406, z_l440, z_l729, z_l800, z_l3960, z_l14336, z_l14592, z_l100000, gF, i1, i2, nI_and2, hab, g_right1 t0, g1, n16, e1, e3, g2, eNT, Nat.add_sub_cancel]
          · rw [K2.1, k1 12 (by decide) (by decide)]
            rfl
          · rw [K2.1, k1 16 (by decide) (by decide)]
            rfl
          · rw [K2.2.1 11 (by decide), k2 11 (by decide)]
            rfl
        · have g1 : f_X8_tests (sF vM 0 (nI 0)) = some (nI (NT (rwv vM n))) := g_tests M0 ht
          have h16b := ht.1.2
          have e16 : 16 ≤ NT (rwv vM n) := by omega
          have rgt2 := g_right0 t0 (c := 2) (by omega) (by omega)
          refine close (4, nI 0, vF, vT, vH) (nI 0, thM vM 2) ?_ ?_ ⟨4, _, _, _, _, _, _, rfl, rfl, hI.th (QM.tm _ _), Or.inr (Or.inr ⟨rfl, thM_0 _ _⟩)⟩
          · unfold f_X7_addTest
            simp (disch := omega) only [z_gt, z_o1, z_o2, z_o3, z_o4, z_o5, z_o6, z_o7, z_o8, z_o9, z_bn, z_jn, nI_add, z_mul, z_sub, z_div, Nat.not_lt_zero, z_cl, z_le, z_lt, z_eq, z_inb, z_nz, z_isB0, z_notJ, z_notI, z_isB1, z_m1, z_pos, z_pos', z_nlt, z_nle', z_m1le, z_m1a, z_nle, z_sI0, z_sI1, z_sI2, z_sI3, z_sJ0, z_sJ1, z_sJ2, z_sJ3, z_sF0, z_sF1, z_sF2, z_sA0, z_sA1, z_sA2, z_sA3, z_sAA, z_sIA, ↓reduceIte, Nat.reduceEqDiff, Nat.reduceLeDiff, Nat.reduceLT, z_l0, z_l1, z_l2, z_l3, z_l4, z_l5, z_l6, z_l7, z_l8, z_l9, z_l10, z_l11, z_l12, z_l13, z_l14, z_l15, z_l16, z_l17, z_l18, z_l19, z_l20, z_l21, z_l22, z_l23, z_l24, z_l25, z_l26, z_l27, z_l28, z_l32, z_l48, z_l56, z_l57, z_l59, z_l63, z_l64, z_l96, z_l97, z_l122, z_l127, z_l152, z_l158, z_l182, z_l255, z_l256, z_l310, z_l342, z_l406, z_l440, z_l729, z_l800, z_l3960, z_l14336, z_l14592, z_l100000, areI_y hw hC ha, areI_y hw hC hb, nI_and2, hab, hT.1, h16]
          · unfold f_X8_addTest
            simp (disch := omega) only [z_gt, z_o1, z_o2, z_o3, z_o4, z_o5, z_o6, z_o7, z_o8, z_o9, z_bn, z_jn, nI_add, z_mul, z_sub, z_div, Nat.not_lt_zero, z_cl, z_le, z_lt, z_eq, z_inb, z_nz, z_isB0, z_notJ, z_notI, z_isB1, z_m1, z_pos, z_pos', z_nlt, z_nle', z_m1le, z_m1a, z_nle, z_sI0, z_sI1, z_sI2, z_sI3, z_sJ0, z_sJ1, z_sJ2, z_sJ3, z_sF0, z_sF1, z_sF2, z_sA0, z_sA1, z_sA2, z_sA3, z_sAA, z_sIA, ↓reduceIte, Nat.reduceEqDiff, Nat.reduceLeDiff, Nat.reduceLT, z_l0, z_l1, z_l2, z_l3, z_l4, z_l5, z_l6, z_l7, z_l8, z_l9, z_l10, z_l11, z_l12, z_l13, z_l14, z_l15, z_l16, z_l17, z_l18, z_l19, z_l20, z_l21, z_l22, z_l23, z_l24, z_l25, z_l26, z_l27, z_l28, z_l32, z_l48, z_l56, z_l57, z_l59, z_l63, z_l64, z_l96, z_l97, z_l122, z_l127, z_l152, z_l158, z_l182, z_l255, z_l256, z_l310, z_l342, z_l406, z_l440, z_l729, z_l800, z_l3960, z_l14336, z_l14592, z_l100000, gF, i1, i2, nI_and2, hab, g_right1 t0, g1, e16, rgt2, thM]
      · refine close (1, nI 0, vF, vT, vH) (nI 0, thM vM 1) ?_ ?_ bad1
        · unfold f_X7_addTest
          simp (disch := omega) only [z_gt, z_o1, z_o2, z_o3, z_o4, z_o5, z_o6, z_o7, z_o8, z_o9, z_bn, z_jn, nI_add, z_mul, z_sub, z_div, Nat.not_lt_zero, z_cl, z_le, z_lt, z_eq, z_inb, z_nz, z_isB0, z_notJ, z_notI, z_isB1, z_m1, z_pos, z_pos', z_nlt, z_nle', z_m1le, z_m1a, z_nle, z_sI0, z_sI1, z_sI2, z_sI3, z_sJ0, z_sJ1, z_sJ2, z_sJ3, z_sF0, z_sF1, z_sF2, z_sA0, z_sA1, z_sA2, z_sA3, z_sAA, z_sIA, ↓reduceIte, Nat.reduceEqDiff, Nat.reduceLeDiff, Nat.reduceLT, z_l0, z_l1, z_l2, z_l3, z_l4, z_l5, z_l6, z_l7, z_l8, z_l9, z_l10, z_l11, z_l12, z_l13, z_l14, z_l15, z_l16, z_l17, z_l18, z_l19, z_l20, z_l21, z_l22, z_l23, z_l24, z_l25, z_l26, z_l27, z_l28, z_l32, z_l48, z_l56, z_l57, z_l59, z_l63, z_l64, z_l96, z_l97, z_l122, z_l127, z_l152, z_l158, z_l182, z_l255, z_l256, z_l310, z_l342, z_l406, z_l440, z_l729, z_l800, z_l3960, z_l14336, z_l14592, z_l100000, areI_y hw hC ha, areI_y hw hC hb, nI_and2, hab]
        · unfold f_X8_addTest
          simp (disch := omega) only [z_gt, z_o1, z_o2, z_o3, z_o4, z_o5, z_o6, z_o7, z_o8, z_o9, z_bn, z_jn, nI_add, z_mul, z_sub, z_div, Nat.not_lt_zero, z_cl, z_le, z_lt, z_eq, z_inb, z_nz, z_isB0, z_notJ, z_notI, z_isB1, z_m1, z_pos, z_pos', z_nlt, z_nle', z_m1le, z_m1a, z_nle, z_sI0, z_sI1, z_sI2, z_sI3, z_sJ0, z_sJ1, z_sJ2, z_sJ3, z_sF0, z_sF1, z_sF2, z_sA0, z_sA1, z_sA2, z_sA3, z_sAA, z_sIA, ↓reduceIte, Nat.reduceEqDiff, Nat.reduceLeDiff, Nat.reduceLT, z_l0, z_l1, z_l2, z_l3, z_l4, z_l5, z_l6, z_l7, z_l8, z_l9, z_l10, z_l11, z_l12, z_l13, z_l14, z_l15, z_l16, z_l17, z_l18, z_l19, z_l20, z_l21, z_l22, z_l23, z_l24, z_l25, z_l26, z_l27, z_l28, z_l32, z_l48, z_l56, z_l57, z_l59, z_l63, z_l64, z_l96, z_l97, z_l122, z_l127, z_l152, z_l158, z_l182, z_l255, z_l256, z_l310, z_l342, z_l406, z_l440, z_l729, z_l800, z_l3960, z_l14336, z_l14592, z_l100000, gF, i1, i2, nI_and2, hab, rgt0, thM]
    · have i1 := g_isIn_y ha (by omega)
      have i2 := g_isIn_n h2 (by omega)
      rw [z_l0, z_l1, z_sub (by omega)] at i1 i2
      refine close (1, nI 0, vF, vT, vH) (nI 0, thM vM 1) ?_ ?_ bad1
      · unfold f_X7_addTest
        simp (disch := omega) only [z_gt, z_o1, z_o2, z_o3, z_o4, z_o5, z_o6, z_o7, z_o8, z_o9, z_bn, z_jn, nI_add, z_mul, z_sub, z_div, Nat.not_lt_zero, z_cl, z_le, z_lt, z_eq, z_inb, z_nz, z_isB0, z_notJ, z_notI, z_isB1, z_m1, z_pos, z_pos', z_nlt, z_nle', z_m1le, z_m1a, z_nle, z_sI0, z_sI1, z_sI2, z_sI3, z_sJ0, z_sJ1, z_sJ2, z_sJ3, z_sF0, z_sF1, z_sF2, z_sA0, z_sA1, z_sA2, z_sA3, z_sAA, z_sIA, ↓reduceIte, Nat.reduceEqDiff, Nat.reduceLeDiff, Nat.reduceLT, z_l0, z_l1, z_l2, z_l3, z_l4, z_l5, z_l6, z_l7, z_l8, z_l9, z_l10, z_l11, z_l12, z_l13, z_l14, z_l15, z_l16, z_l17, z_l18, z_l19, z_l20, z_l21, z_l22, z_l23, z_l24, z_l25, z_l26, z_l27, z_l28, z_l32, z_l48, z_l56, z_l57, z_l59, z_l63, z_l64, z_l96, z_l97, z_l122, z_l127, z_l152, z_l158, z_l182, z_l255, z_l256, z_l310, z_l342, z_l406, z_l440, z_l729, z_l800, z_l3960, z_l14336, z_l14592, z_l100000, areI_y hw hC ha, areI_n hw hC h2]
      · unfold f_X8_addTest
        simp (disch := omega) only [z_gt, z_o1, z_o2, z_o3, z_o4, z_o5, z_o6, z_o7, z_o8, z_o9, z_bn, z_jn, nI_add, z_mul, z_sub, z_div, Nat.not_lt_zero, z_cl, z_le, z_lt, z_eq, z_inb, z_nz, z_isB0, z_notJ, z_notI, z_isB1, z_m1, z_pos, z_pos', z_nlt, z_nle', z_m1le, z_m1a, z_nle, z_sI0, z_sI1, z_sI2, z_sI3, z_sJ0, z_sJ1, z_sJ2, z_sJ3, z_sF0, z_sF1, z_sF2, z_sA0, z_sA1, z_sA2, z_sA3, z_sAA, z_sIA, ↓reduceIte, Nat.reduceEqDiff, Nat.reduceLeDiff, Nat.reduceLT, z_l0, z_l1, z_l2, z_l3, z_l4, z_l5, z_l6, z_l7, z_l8, z_l9, z_l10, z_l11, z_l12, z_l13, z_l14, z_l15, z_l16, z_l17, z_l18, z_l19, z_l20, z_l21, z_l22, z_l23, z_l24, z_l25, z_l26, z_l27, z_l28, z_l32, z_l48, z_l56, z_l57, z_l59, z_l63, z_l64, z_l96, z_l97, z_l122, z_l127, z_l152, z_l158, z_l182, z_l255, z_l256, z_l310, z_l342, z_l406, z_l440, z_l729, z_l800, z_l3960, z_l14336, z_l14592, z_l100000, gF, i1, i2, rgt0, thM]
  · have i1 := g_isIn_n h1 (by omega)
    rw [z_l0, z_l1, z_sub (by omega)] at i1
    refine close (1, nI 0, vF, vT, vH) (nI 0, thM vM 1) ?_ ?_ bad1
    · unfold f_X7_addTest
      simp (disch := omega) only [z_gt, z_o1, z_o2, z_o3, z_o4, z_o5, z_o6, z_o7, z_o8, z_o9, z_bn, z_jn, nI_add, z_mul, z_sub, z_div, Nat.not_lt_zero, z_cl, z_le, z_lt, z_eq, z_inb, z_nz, z_isB0, z_notJ, z_notI, z_isB1, z_m1, z_pos, z_pos', z_nlt, z_nle', z_m1le, z_m1a, z_nle, z_sI0, z_sI1, z_sI2, z_sI3, z_sJ0, z_sJ1, z_sJ2, z_sJ3, z_sF0, z_sF1, z_sF2, z_sA0, z_sA1, z_sA2, z_sA3, z_sAA, z_sIA, ↓reduceIte, Nat.reduceEqDiff, Nat.reduceLeDiff, Nat.reduceLT, z_l0, z_l1, z_l2, z_l3, z_l4, z_l5, z_l6, z_l7, z_l8, z_l9, z_l10, z_l11, z_l12, z_l13, z_l14, z_l15, z_l16, z_l17, z_l18, z_l19, z_l20, z_l21, z_l22, z_l23, z_l24, z_l25, z_l26, z_l27, z_l28, z_l32, z_l48, z_l56, z_l57, z_l59, z_l63, z_l64, z_l96, z_l97, z_l122, z_l127, z_l152, z_l158, z_l182, z_l255, z_l256, z_l310, z_l342, z_l406, z_l440, z_l729, z_l800, z_l3960, z_l14336, z_l14592, z_l100000, areI_n hw hC h1]
    · unfold f_X8_addTest
      simp (disch := omega) only [z_gt, z_o1, z_o2, z_o3, z_o4, z_o5, z_o6, z_o7, z_o8, z_o9, z_bn, z_jn, nI_add, z_mul, z_sub, z_div, Nat.not_lt_zero, z_cl, z_le, z_lt, z_eq, z_inb, z_nz, z_isB0, z_notJ, z_notI, z_isB1, z_m1, z_pos, z_pos', z_nlt, z_nle', z_m1le, z_m1a, z_nle, z_sI0, z_sI1, z_sI2, z_sI3, z_sJ0, z_sJ1, z_sJ2, z_sJ3, z_sF0, z_sF1, z_sF2, z_sA0, z_sA1, z_sA2, z_sA3, z_sAA, z_sIA, ↓reduceIte, Nat.reduceEqDiff, Nat.reduceLeDiff, Nat.reduceLT, z_l0, z_l1, z_l2, z_l3, z_l4, z_l5, z_l6, z_l7, z_l8, z_l9, z_l10, z_l11, z_l12, z_l13, z_l14, z_l15, z_l16, z_l17, z_l18, z_l19, z_l20, z_l21, z_l22, z_l23, z_l24, z_l25, z_l26, z_l27, z_l28, z_l32, z_l48, z_l56, z_l57, z_l59, z_l63, z_l64, z_l96, z_l97, z_l122, z_l127, z_l152, z_l158, z_l182, z_l255, z_l256, z_l310, z_l342, z_l406, z_l440, z_l729, z_l800, z_l3960, z_l14336, z_l14592, z_l100000, gF, i1, rgt0, thM]
theorem q_undo {vM vF vC vT vRT vG vRF vD : Vs} {vH : Hv} (hI : INV vM vF vC vT vRT vG vRF vD vH) :
    ∃ x vF' vC' vT' vH' vM', f_X7_undo vF vC vT vH = some (x, vF', vC', vT', vH') ∧ f_X8_undo vM = some (x, vM') ∧ INV vM' vF' vC' vT' vRT vG vRF vD vH' := by
  obtain ⟨n, hn3, hn9, hG, hF, hH, hX⟩ := id hI
  obtain ⟨u, x, a, b, c, d, e, f⟩ := hH
  have hu0 : (sF vM 0 (nI 0)).1 4 = nI u := by rw [z_sF2 _ _ _ (by decide)]; exact a
  by_cases h0 : u = 0
  · subst h0
    refine ⟨im1, vF, vC, vT, vH, sF vM 0 (nI 0), ?_, ?_, hI.th (QM.th _ _)⟩
    · unfold f_X7_undo
      simp (disch := omega) only [z_gt, z_o1, z_o2, z_o3, z_o4, z_o5, z_o6, z_o7, z_o8, z_o9, z_bn, z_jn, nI_add, z_mul, z_sub, z_div, Nat.not_lt_zero, z_cl, z_le, z_lt, z_eq, z_inb, z_nz, z_isB0, z_notJ, z_notI, z_isB1, z_m1, z_pos, z_pos', z_nlt, z_nle', z_m1le, z_m1a, z_nle, z_sI0, z_sI1, z_sI2, z_sI3, z_sJ0, z_sJ1, z_sJ2, z_sJ3, z_sF0, z_sF1, z_sF2, z_sA0, z_sA1, z_sA2, z_sA3, z_sAA, z_sIA, ↓reduceIte, Nat.reduceEqDiff, Nat.reduceLeDiff, Nat.reduceLT, z_l0, z_l1, z_l2, z_l3, z_l4, z_l5, z_l6, z_l7, z_l8, z_l9, z_l10, z_l11, z_l12, z_l13, z_l14, z_l15, z_l16, z_l17, z_l18, z_l19, z_l20, z_l21, z_l22, z_l23, z_l24, z_l25, z_l26, z_l27, z_l28, z_l32, z_l48, z_l56, z_l57, z_l59, z_l63, z_l64, z_l96, z_l97, z_l122, z_l127, z_l152, z_l158, z_l182, z_l255, z_l256, z_l310, z_l342, z_l406, z_l440, z_l729, z_l800, z_l3960, z_l14336, z_l14592, z_l100000, c]
    · unfold f_X8_undo
      simp (disch := omega) only [z_gt, z_o1, z_o2, z_o3, z_o4, z_o5, z_o6, z_o7, z_o8, z_o9, z_bn, z_jn, nI_add, z_mul, z_sub, z_div, Nat.not_lt_zero, z_cl, z_le, z_lt, z_eq, z_inb, z_nz, z_isB0, z_notJ, z_notI, z_isB1, z_m1, z_pos, z_pos', z_nlt, z_nle', z_m1le, z_m1a, z_nle, z_sI0, z_sI1, z_sI2, z_sI3, z_sJ0, z_sJ1, z_sJ2, z_sJ3, z_sF0, z_sF1, z_sF2, z_sA0, z_sA1, z_sA2, z_sA3, z_sAA, z_sIA, ↓reduceIte, Nat.reduceEqDiff, Nat.reduceLeDiff, Nat.reduceLT, z_l0, z_l1, z_l2, z_l3, z_l4, z_l5, z_l6, z_l7, z_l8, z_l9, z_l10, z_l11, z_l12, z_l13, z_l14, z_l15, z_l16, z_l17, z_l18, z_l19, z_l20, z_l21, z_l22, z_l23, z_l24, z_l25, z_l26, z_l27, z_l28, z_l32, z_l48, z_l56, z_l57, z_l59, z_l63, z_l64, z_l96, z_l97, z_l122, z_l127, z_l152, z_l158, z_l182, z_l255, z_l256, z_l310, z_l342, z_l406, z_l440, z_l729, z_l800, z_l3960, z_l14336, z_l14592, z_l100000, hu0, a]
  · obtain ⟨g1, g2, g3, g4⟩ := f 1 (by omega) (by omega)
    rw [show (x + 8 - 1) % 8 = (x + 7) % 8 by omega] at g3 g4
    have em : (n + 9 - 1) % 9 = (n + 8) % 9 := by omega
    rw [em] at g1 g2 g3 g4
    obtain ⟨cc, ec, hc⟩ := x_copyC (vC := vC) g1 g3
    obtain ⟨tt, et, hT⟩ := x_copyT (vT := vT) g2 g4
    have e4 : f_X4_copyFrom vC vT (vH.2.1 ((x + 7) % 8)) (vH.2.2 ((x + 7) % 8)) = some (cc, tt) := by
      unfold f_X4_copyFrom
      rw [ec, z_o1, et, z_o1]
    obtain ⟨vM', hvM⟩ : ∃ z, z = sF (sF (sF vM 0 (nI 0)) 4 (nI (u - 1))) 3 (nI ((n + 8) % 9)) := ⟨_, rfl⟩
    have hrow : ∀ m, rwv vM' m = rwv vM m := fun m => by rw [hvM]; rfl
    refine ⟨nI (u - 1), sF (sF vF 5 (nI 0)) 6 (nI 0), cc, tt, (sF (sF vH.1 1 (nI ((x + 7) % 8))) 0 (nI (u - 1)), vH.2), vM', ?_, ?_, ⟨(n + 8) % 9, by rw [hvM]; exact z_sF1 _ _ _, by omega, ?_, ?_, ⟨u - 1, (x + 7) % 8, ?_, by omega, z_sF1 _ _ _, ?_, by omega, fun j h1 h2 => ?_⟩, hX.same (by rw [hvM]; rfl) (by rw [hvM]; rfl) (by rw [hvM]; rfl)⟩⟩
    · have ep : f_X1_pop vC vT vH = some (cc, tt, (sF (sF vH.1 1 (nI ((x + 7) % 8))) 0 (nI (u - 1)), vH.2)) := by
        unfold f_X1_pop
        rw [z_l8, z_l1, d, nI_add, z_sub (by omega), z_div (by omega) (by omega), z_mul, z_sub (by omega), show x + 8 - 1 - (x + 8 - 1) / 8 * 8 = (x + 7) % 8 by omega, z_nz (by omega) (by omega), z_gt, z_bn]
        have q1 : (sF vH.1 1 (nI ((x + 7) % 8)), vH.2).1.1 1 = nI ((x + 7) % 8) := z_sF1 _ _ _
        have q2 : (sF vH.1 1 (nI ((x + 7) % 8)), vH.2).1.1 0 = nI u := by
          show (sF vH.1 1 (nI ((x + 7) % 8))).1 0 = nI u
          rw [z_sF2 _ _ _ (by decide), c]
        rw [q1, z_inb (by omega) (by omega), z_gt, z_cl (by omega)]
        show o2 (f_X4_copyFrom vC vT (vH.2.1 ((x + 7) % 8)) (vH.2.2 ((x + 7) % 8))) _ = _
        rw [e4, z_o2, q2, z_sub (by omega), z_bn]
      unfold f_X7_undo
      have qx : (sF (sF vH.1 1 (nI ((x + 7) % 8))) 0 (nI (u - 1)), vH.2).1.1 0 = nI (u - 1) := z_sF1 _ _ _
      unfold f_X7_forgetRows
      simp (disch := omega) only [z_gt, z_o1, z_o2, z_o3, z_o4, z_o5, z_o6, z_o7, z_o8, z_o9, z_bn, z_jn, nI_add, z_mul, z_sub, z_div, Nat.not_lt_zero, z_cl, z_le, z_lt, z_eq, z_inb, z_nz, z_isB0, z_notJ, z_notI, z_isB1, z_m1, z_pos, z_pos', z_nlt, z_nle', z_m1le, z_m1a, z_nle, z_sI0, z_sI1, z_sI2, z_sI3, z_sJ0, z_sJ1, z_sJ2, z_sJ3, z_sF0, z_sF1, z_sF2, z_sA0, z_sA1, z_sA2, z_sA3, z_sAA, z_sIA, ↓reduceIte, Nat.reduceEqDiff, Nat.reduceLeDiff, Nat.reduceLT, z_l0, z_l1, z_l2, z_l3, z_l4, z_l5, z_l6, z_l7, z_l8, z_l9, z_l10, z_l11, z_l12, z_l13, z_l14, z_l15, z_l16, z_l17, z_l18, z_l19, z_l20, z_l21, z_l22, z_l23, z_l24, z_l25, z_l26, z_l27, z_l28, z_l32, z_l48, z_l56, z_l57, z_l59, z_l63, z_l64, z_l96, z_l97, z_l122, z_l127, z_l152, z_l158, z_l182, z_l255, z_l256, z_l310, z_l342, z_l406, z_l440, z_l729, z_l800, z_l3960, z_l14336, z_l14592, z_l100000, c, h0, ep]
    · unfold f_X8_undo
      have q3 : (sF (sF vM 0 (nI 0)) 4 (nI (u - 1))).1 3 = nI n := by rw [z_sF2 _ _ _ (by decide), z_sF2 _ _ _ (by decide)]; exact hn3
      have q4 : (sF (sF (sF vM 0 (nI 0)) 4 (nI (u - 1))) 3 (nI ((n + 8) % 9))).1 4 = nI (u - 1) := by rw [z_sF2 _ _ _ (by decide), z_sF1]
      rw [z_l0, z_bn, hu0, ief h0 (by omega) (by omega), z_l1, z_sub (by omega), z_bn, z_l9, z_nz (by omega) (by omega), z_gt, q3, nI_add, z_sub (by omega), z_div (by omega) (by omega), z_mul, z_sub (by omega), show n + 9 - 1 - (n + 9 - 1) / 9 * 9 = (n + 8) % 9 by omega, z_bn, q4, hvM]
    · rw [hrow]
      exact ⟨g1, g2, hc, hT⟩
    · exact FI.none hF (z_sF1 _ _ _) (by rw [z_sF2 _ _ _ (by decide), z_sF1]; rfl) rfl
    · rw [hvM, z_sF2 _ _ _ (by decide), z_sF1]
    · show (sF (sF vH.1 1 (nI ((x + 7) % 8))) 0 _).1 1 = _
      rw [z_sF2 _ _ _ (by decide), z_sF1]
    · rw [hrow, show ((n + 8) % 9 + 9 - j) % 9 = (n + 9 - (j + 1)) % 9 by omega, show ((x + 7) % 8 + 8 - j) % 8 = (x + 8 - (j + 1)) % 8 by omega]
      exact f (j + 1) (by omega) (by omega)
