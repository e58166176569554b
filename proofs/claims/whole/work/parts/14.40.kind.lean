/-! setKind -/
theorem fewI_at {k : Nat} (h : k < 9) : fewI k = nI (few k) ∧ mostI k = nI (mst k) ∧ f_X8_fewest (nI k) = some (nI (few k)) ∧ f_X8_mostOf (nI k) = some (nI (mst k)) := by
  have : k = 0 ∨ k = 1 ∨ k = 2 ∨ k = 3 ∨ k = 4 ∨ k = 5 ∨ k = 6 ∨ k = 7 ∨ k = 8 := by omega
  rcases this with rfl | rfl | rfl | rfl | rfl | rfl | rfl | rfl | rfl <;> exact ⟨rfl, rfl, rfl, rfl⟩
theorem isIn_at {a b c : Nat} (ha : a < 2147483648) (hb : b < 2147483648) (hc : c < 2147483648) : f_X8_isIn (nI a) (nI b) (nI c) = some (nI (if b ≤ a ∧ a ≤ c then 1 else 0)) := by
  unfold f_X8_isIn
  by_cases h1 : b ≤ a
  · by_cases h2 : a ≤ c
    · have n1 : ¬ a < b := by omega
      have n2 : ¬ c < a := by omega
      simp (disch := omega) only [z_gt, z_o1, z_o2, z_o3, z_o4, z_o5, z_o6, z_o7, z_o8, z_o9, z_bn, z_jn, nI_add, z_mul, z_sub, z_div, Nat.not_lt_zero, z_cl, z_le, z_lt, z_eq, z_inb, z_nz, z_isB0, z_notJ, z_notI, z_isB1, z_m1, z_pos, z_pos', z_nlt, z_nle', z_m1le, z_m1a, z_nle, z_sI0, z_sI1, z_sI2, z_sI3, z_sJ0, z_sJ1, z_sJ2, z_sJ3, z_sF0, z_sF1, z_sF2, z_sA0, z_sA1, z_sA2, z_sA3, z_sAA, z_sIA, ↓reduceIte, Nat.reduceEqDiff, Nat.reduceLeDiff, Nat.reduceLT, z_l0, z_l1, z_l2, z_l3, z_l4, z_l5, z_l6, z_l7, z_l8, z_l9, z_l10, z_l11, z_l12, z_l13, z_l14, z_l15, z_l16, z_l17, z_l18, z_l19, z_l20, z_l21, z_l22, z_l23, z_l24, z_l25, z_l26, z_l27, z_l28, z_l32, z_l48, z_l56, z_l57, z_l59, z_l63, z_l64, z_l96, z_l97, z_l122, z_l127, z_l152, z_l158, z_l182, z_l255, z_l256, z_l310, z_l342, z_l406, z_l440, z_l729, z_l800, z_l3960, z_l14336, z_l14592, z_l100000, h1, h2, n1, n2, and_self]
    · have n1 : ¬ a < b := by omega
      have n2 : c < a := by omega
      simp (disch := omega) only [z_gt, z_o1, z_o2, z_o3, z_o4, z_o5, z_o6, z_o7, z_o8, z_o9, z_bn, z_jn, nI_add, z_mul, z_sub, z_div, Nat.not_lt_zero, z_cl, z_le, z_lt, z_eq, z_inb, z_nz, z_isB0, z_notJ, z_notI, z_isB1, z_m1, z_pos, z_pos', z_nlt, z_nle', z_m1le, z_m1a, z_nle, z_sI0, z_sI1, z_sI2, z_sI3, z_sJ0, z_sJ1, z_sJ2, z_sJ3, z_sF0, z_sF1, z_sF2, z_sA0, z_sA1, z_sA2, z_sA3, z_sAA, z_sIA, ↓reduceIte, Nat.reduceEqDiff, Nat.reduceLeDiff, Nat.reduceLT, z_l0, z_l1, z_l2, z_l3, z_l4, z_l5, z_l6, z_l7, z_l8, z_l9, z_l10, z_l11, z_l12, z_l13, z_l14, z_l15, z_l16, z_l17, z_l18, z_l19, z_l20, z_l21, z_l22, z_l23, z_l24, z_l25, z_l26, z_l27, z_l28, z_l32, z_l48, z_l56, z_l57, z_l59, z_l63, z_l64, z_l96, z_l97, z_l122, z_l127, z_l152, z_l158, z_l182, z_l255, z_l256, z_l310, z_l342, z_l406, z_l440, z_l729, z_l800, z_l3960, z_l14336, z_l14592, z_l100000, h1, h2, n1, n2, and_false]
  · have n1 : a < b := by omega
    simp (disch := omega) only [z_gt, z_o1, z_o2, z_o3, z_o4, z_o5, z_o6, z_o7, z_o8, z_o9, z_bn, z_jn, nI_add, z_mul, z_sub, z_div, Nat.not_lt_zero, z_cl, z_le, z_lt, z_eq, z_inb, z_nz, z_isB0, z_notJ, z_notI, z_isB1, z_m1, z_pos, z_pos', z_nlt, z_nle', z_m1le, z_m1a, z_nle, z_sI0, z_sI1, z_sI2, z_sI3, z_sJ0, z_sJ1, z_sJ2, z_sJ3, z_sF0, z_sF1, z_sF2, z_sA0, z_sA1, z_sA2, z_sA3, z_sAA, z_sIA, ↓reduceIte, Nat.reduceEqDiff, Nat.reduceLeDiff, Nat.reduceLT, z_l0, z_l1, z_l2, z_l3, z_l4, z_l5, z_l6, z_l7, z_l8, z_l9, z_l10, z_l11, z_l12, z_l13, z_l14, z_l15, z_l16, z_l17, z_l18, z_l19, z_l20, z_l21, z_l22, z_l23, z_l24, z_l25, z_l26, z_l27, z_l28, z_l32, z_l48, z_l56, z_l57, z_l59, z_l63, z_l64, z_l96, z_l97, z_l122, z_l127, z_l152, z_l158, z_l182, z_l255, z_l256, z_l310, z_l342, z_l406, z_l440, z_l729, z_l800, z_l3960, z_l14336, z_l14592, z_l100000, h1, n1, false_and]
theorem cls_out {α : Type} {x : Int32} {n : Nat} (h : x < 0 ∨ nI n ≤ x) (hn : n < 2147483648) {l : Int32} (hl : l = nI n) (a b : α) : (if x < 0 then a else if x < l then b else a) = a := by
  subst hl
  by_cases c : x < 0
  · rw [if_pos c]
  · rw [if_neg c, if_neg]
    rcases h with h | h
    · exact absurd h c
    · intro q
      rw [Int32.lt_iff_toInt_lt] at q
      rw [Int32.le_iff_toInt_le] at h
      omega
theorem q_setKind {vM vF vC vT vRT vG vRF vD : Vs} {vH : Hv} (hI : INV vM vF vC vT vRT vG vRF vD vH) (x1 x2 : Int32) :
    ∃ c x vF' vC' vH' y vM', f_X7_setKind vF vC vT vH x1 x2 = some (c, x, vF', vC', vH') ∧ f_X8_setKind vM x1 x2 = some (y, vM') ∧ INV vM' vF' vC' vT vRT vG vRF vD vH' ∧ ((c = 0 ∧ vM'.1 0 = nI 0 ∧ x = y) ∨ (c = 2 ∧ vM'.1 0 = nI 1) ∨ (c = 1 ∧ vM'.1 0 = nI 2)) := by
  obtain ⟨n, hn3, hn9, hG, hF, hH, hX⟩ := id hI
  obtain ⟨hw, ht, hC, hT⟩ := id hG
  have hn := hw.nf
  have h16 := ht.1.2
  have hM := MS.of hn3 hn9
  have M0 := hM.sF 0 (nI 0) (by decide)
  have t0 : (sF vM 0 (nI 0)).1 0 = nI 0 := z_sF1 _ _ _
  have gI := g_inputs M0 hw
  have rgt1 := g_right0 t0 (c := 1) (by omega) (by omega)
  have rgt2 := g_right0 t0 (c := 2) (by omega) (by omega)
  rcases in_or x1 (n := NW (rwv vM n)) (by omega) with ⟨w, h1, rfl⟩ | h1
  · by_cases hi : w < NI (rwv vM n)
    · -- an input has no kind
      have hin := hw.2.2.2.2.1 w hi
      refine ⟨1, nI 0, vF, vC, vH, nI 0, thM vM 2, ?_, ?_, hI.th (QM.tm _ _), Or.inr (Or.inr ⟨rfl, thM_0 _ _⟩)⟩
      · unfold f_X7_setKind
        simp (disch := omega) only [z_gt, z_o1, z_o2, z_o3, z_o4, z_o5, z_o6, z_o7, z_o8, z_o9, z_bn, z_jn, nI_add, z_mul, z_sub, z_div, Nat.not_lt_zero, z_cl, z_le, z_lt, z_eq, z_inb, z_nz, z_isB0, z_notJ, z_notI, z_isB1, z_m1, z_pos, z_pos', z_nlt, z_nle', z_m1le, z_m1a, z_nle, z_sI0, z_sI1, z_sI2, z_sI3, z_sJ0, z_sJ1, z_sJ2, z_sJ3, z_sF0, z_sF1, z_sF2, z_sA0, z_sA1, z_sA2, z_sA3, z_sAA, z_sIA, ↓reduceIte, Nat.reduceEqDiff, Nat.reduceLeDiff, Nat.reduceLT, z_l0, z_l1, z_l2, z_l3, z_l4, z_l5, z_l6, z_l7, z_l8, z_l9, z_l10, z_l11, z_l12, z_l13, z_l14, z_l15, z_l16, z_l17, z_l18, z_l19, z_l20, z_l21, z_l22, z_l23, z_l24, z_l25, z_l26, z_l27, z_l28, z_l32, z_l48, z_l56, z_l57, z_l59, z_l63, z_l64, z_l96, z_l97, z_l122, z_l127, z_l152, z_l158, z_l182, z_l255, z_l256, z_l310, z_l342, z_l406, z_l440, z_l729, z_l800, z_l3960, z_l14336, z_l14592, z_l100000, x_wire_y hw hC h1, (hC.2.1 w h1).1, hin.1]
      · unfold f_X8_setKind
        simp (disch := omega) only [z_gt, z_o1, z_o2, z_o3, z_o4, z_o5, z_o6, z_o7, z_o8, z_o9, z_bn, z_jn, nI_add, z_mul, z_sub, z_div, Nat.not_lt_zero, z_cl, z_le, z_lt, z_eq, z_inb, z_nz, z_isB0, z_notJ, z_notI, z_isB1, z_m1, z_pos, z_pos', z_nlt, z_nle', z_m1le, z_m1a, z_nle, z_sI0, z_sI1, z_sI2, z_sI3, z_sJ0, z_sJ1, z_sJ2, z_sJ3, z_sF0, z_sF1, z_sF2, z_sA0, z_sA1, z_sA2, z_sA3, z_sAA, z_sIA, ↓reduceIte, Nat.reduceEqDiff, Nat.reduceLeDiff, Nat.reduceLT, z_l0, z_l1, z_l2, z_l3, z_l4, z_l5, z_l6, z_l7, z_l8, z_l9, z_l10, z_l11, z_l12, z_l13, z_l14, z_l15, z_l16, z_l17, z_l18, z_l19, z_l20, z_l21, z_l22, z_l23, z_l24, z_l25, z_l26, z_l27, z_l28, z_l32, z_l48, z_l56, z_l57, z_l59, z_l63, z_l64, z_l96, z_l97, z_l122, z_l127, z_l152, z_l158, z_l182, z_l255, z_l256, z_l310, z_l342, z_l406, z_l440, z_l729, z_l800, z_l3960, z_l14336, z_l14592, z_l100000, g_isWire_y M0 hw t0 h1, gI, hi, rgt2, thM]
    · obtain ⟨h24, g1, g2, g3, g4, g5, g6, g7, g8⟩ := hw.gate (w := w) (by omega) h1
      have hk1 : ¬ nI (kd (rwv vM n) w) = (-1 : Int32) := fun q => (z_pos' (show kd (rwv vM n) w < 2147483648 by omega)).mp q
      rcases in_or x2 (n := 9) (by omega) with ⟨k, h2, rfl⟩ | h2
      · have i2 := g_isIn_y h2 (by omega)
        rw [z_l0, z_l1, z_sub (by omega)] at i2
        obtain ⟨f1, f2, f3, f4⟩ := fewI_at h2
        have hfm : few k ≤ 4 ∧ mst k ≤ 4 := ⟨by unfold few; (repeat' split) <;> omega, mst_4 k⟩
        have gH := g_have M0 (w := w) h24
        rw [g3] at gH
        by_cases hc : few k ≤ hv (rwv vM n) w ∧ hv (rwv vM n) w ≤ mst k
        · have i3 := isIn_at (a := hv (rwv vM n) w) (b := few k) (c := mst k) (by omega) (by omega) (by omega)
          rw [if_pos hc] at i3
          obtain ⟨v1, h1', e1, e2, m1, k1, k2, hHX⟩ := q_change (v := sF vM 0 (nI 0)) hn3 hn9 hG (hH.qm (QM.th _ _))
          have m1 : MS v1 ((n + 1) % 9) (rwv vM n) := m1
          have gK := g_kind m1 (w := w) h24
          rw [g1] at gK
          obtain ⟨v2, e3, m2, K2⟩ := h_put m1 (k := 8 + w) (by omega) (nI k)
          obtain ⟨S, hSd⟩ : ∃ S, S = rwv v2 ((n + 1) % 9) := ⟨_, rfl⟩
          have hr1 : ∀ j, j < 440 → j ≠ 8 + w → S j = rwv vM n j := fun j h8 h9 => by rw [hSd, m2.rw h8, z_u2 _ _ h9]
          have hr2 : S (8 + w) = nI k := by rw [hSd, m2.rw (by omega), z_u1 _ _ rfl]
          have e0 : NI S = NI (rwv vM n) := by show nn (S 0) = _; rw [hr1 0 (by omega) (by omega)]
          have e1' : NW S = NW (rwv vM n) := by show nn (S 1) = _; rw [hr1 1 (by omega) (by omega)]
          have eO : NO S = NO (rwv vM n) := by show nn (S 2) = _; rw [hr1 2 (by omega) (by omega)]
          have eB : NB S = NB (rwv vM n) := by show nn (S 3) = _; rw [hr1 3 (by omega) (by omega)]
          have ekw : kd S w = k := by show nn (S (8 + w)) = _; rw [hr2, nn_nI (by omega)]
          have ek : ∀ j, j < 24 → j ≠ w → S (8 + j) = rwv vM n (8 + j) ∧ kd S j = kd (rwv vM n) j := fun j h8 h9 => by
            have e := hr1 (8 + j) (by omega) (by omega)
            exact ⟨e, by show nn _ = nn _; rw [e]⟩
          have eh : ∀ j, j < 24 → S (32 + j) = rwv vM n (32 + j) ∧ hv S j = hv (rwv vM n) j := fun j h8 => by
            have e := hr1 (32 + j) (by omega) (by omega)
            exact ⟨e, by show nn _ = nn _; rw [e]⟩
          have eo : ∀ j q, j < 24 → q < 4 → S (56 + 4 * j + q) = rwv vM n (56 + 4 * j + q) ∧ op S j q = op (rwv vM n) j q := fun j q h8 h9 => by
            have e := hr1 (56 + 4 * j + q) (by omega) (by omega)
            exact ⟨e, by show nn _ = nn _; rw [e]⟩
          have hwS : WFc S := by
            obtain ⟨a1, a2, a3, a4, a5, a6, a7, a8, a9⟩ := hw
            unfold WFc
            rw [e0, e1', eO, eB, hr1 0 (by omega) (by omega), hr1 1 (by omega) (by omega), hr1 2 (by omega) (by omega), hr1 3 (by omega) (by omega)]
            refine ⟨a1, a2, a3, a4, fun j h8 => ?_, fun j h8 h9 => ?_, fun j q h8 h9 hq => ?_, fun o h8 => ?_, fun b h8 => ?_⟩
            · rw [(ek j (by omega) (by omega)).1, (eh j (by omega)).1]
              exact a5 j h8
            · rw [(eh j (by omega)).1, (eh j (by omega)).2]
              by_cases e : j = w
              · rw [e, hr2, ekw]
                exact ⟨⟨rfl, by omega⟩, g3, hc.1, hc.2⟩
              · rw [(ek j (by omega) e).1, (ek j (by omega) e).2]
                exact a6 j h8 h9
            · rw [(eh j (by omega)).2] at hq
              have hq4 : q < 4 := by
                have := (a6 j h8 h9).2.2.2
                have := mst_4 (kd (rwv vM n) j)
                omega
              rw [(eo j q (by omega) hq4).1, (eo j q (by omega) hq4).2]
              exact a7 j q h8 h9 hq
            · have e := hr1 (152 + o) (by omega) (by omega)
              have e9 : ou S o = ou (rwv vM n) o := by show nn _ = nn _; rw [e]
              rw [e, e9]
              exact a8 o h8
            · have b1 := hr1 (158 + 3 * b) (by omega) (by omega)
              have b2 := hr1 (158 + 3 * b + 1) (by omega) (by omega)
              have b3 := hr1 (158 + 3 * b + 2) (by omega) (by omega)
              have c1 : bk S b = bk (rwv vM n) b := by show nn _ = nn _; rw [b1]
              have c2 : ba S b = ba (rwv vM n) b := by show nn _ = nn _; rw [b2]
              have c3 : bb S b = bb (rwv vM n) b := by show nn _ = nn _; rw [b3]
              rw [b1, b2, b3, c1, c2, c3]
              exact a9 b h8
          have htS : WFt S := ht.of hn.2.2.1 (hr1 0 (by omega) (by omega)) (hr1 4 (by omega) (by omega)) (fun j h8 h9 => hr1 j h9 (by omega))
          have hTS : RT S vT := hT.of hn.2.2.1 h16 (hr1 0 (by omega) (by omega)) (hr1 2 (by omega) (by omega)) (hr1 4 (by omega) (by omega)) (fun j h8 h9 => hr1 j h9 (by omega))
          have hlu : ∀ j, 32 ≤ j → j < 152 → S j = rwv vM n j := fun j h8 h9 => hr1 j (by omega) (by omega)
          have h00 : S 0 = rwv vM n 0 := hr1 0 (by omega) (by omega)
          have hCS : RC S (sI vC 4 w (nI k)) := by
            obtain ⟨a, b, c, d, e, f⟩ := hC
            unfold RC
            rw [e0, e1', eO, eB]
            refine ⟨a, fun j h8 => ?_, fun j q h8 h9 hq => ?_, fun j h8 => ?_, fun o h8 => ?_, fun x h8 => ?_⟩
            · rw [z_sI3 _ _ _ _ (show 5 ≠ 4 by decide), (eh j (by omega)).1, z_sI2]
              by_cases q : j = w
              · rw [z_u1 _ _ q, q, hr2]
                exact ⟨rfl, (b w h1).2⟩
              · rw [z_u2 _ _ q, (ek j (by omega) q).1]
                exact b j h8
            · rw [(eh j (by omega)).2] at hq
              have hq4 : q < 4 := by
                have := (hw.2.2.2.2.2.1 j h8 h9).2.2.2
                have := mst_4 (kd (rwv vM n) j)
                omega
              rw [z_sI3 _ _ _ _ (by decide), (eo j q (by omega) hq4).1]
              exact c j q h8 h9 hq
            · rw [z_sI3 _ _ _ _ (by decide), z_sI3 _ _ _ _ (by decide), z_sI3 _ _ _ _ (by decide), lev_cong hw h00 hlu (j + 1) j (by omega) h8, bel_cong hw h00 hlu (j + 1) j (by omega) h8, use_cong hw h00 hlu j _ (Nat.le_refl _)]
              exact d j h8
            · rw [z_sI3 _ _ _ _ (by decide), hr1 _ (by omega) (by omega)]
              exact e o h8
            · rw [z_sI3 _ _ _ _ (by decide), z_sI3 _ _ _ _ (by decide), z_sI3 _ _ _ _ (by decide), hr1 _ (by omega) (by omega), hr1 _ (by omega) (by omega), hr1 _ (by omega) (by omega)]
              exact f x h8
          have t2 : v2.1 0 = nI 0 := by rw [K2.1, k1 0 (by decide) (by decide)]; exact t0
          refine ⟨0, nI (kd (rwv vM n) w), sF (sF vF 5 (nI 0)) 6 (nI 0), sI vC 4 w (nI k), h1', nI (kd (rwv vM n) w), v2, ?_, ?_, ⟨(n + 1) % 9, m2.1, m2.2.1, by rw [← hSd]; exact ⟨hwS, htS, hCS, hTS⟩, FI.none hF (z_sF1 _ _ _) (by rw [z_sF2 _ _ _ (by decide), z_sF1]; rfl) rfl, hHX v2 K2, hX.same (by rw [K2.1, k1 12 (by decide) (by decide)]; rfl) (by rw [K2.1, k1 16 (by decide) (by decide)]; rfl) (by rw [K2.2.1 11 (by decide), k2 11 (by decide)]; rfl)⟩, Or.inl ⟨rfl, t2, rfl⟩⟩
          · unfold f_X7_setKind f_X7_forgetRows
            have n1 : ¬ hv (rwv vM n) w < few k := by omega
            simp (disch := omega) only [z_gt, z_o1, z_o2, z_o3, z_o4, z_o5, z_o6, z_o7, z_o8, z_o9, z_bn, z_jn, nI_add, z_mul, z_sub, z_div, Nat.not_lt_zero, z_cl, z_le, z_lt, z_eq, z_inb, z_nz, z_isB0, z_notJ, z_notI, z_isB1, z_m1, z_pos, z_pos', z_nlt, z_nle', z_m1le, z_m1a, z_nle, z_sI0, z_sI1, z_sI2, z_sI3, z_sJ0, z_sJ1, z_sJ2, z_sJ3, z_sF0, z_sF1, z_sF2, z_sA0, z_sA1, z_sA2, z_sA3, z_sAA, z_sIA, ↓reduceIte, Nat.reduceEqDiff, Nat.reduceLeDiff, Nat.reduceLT, z_l0, z_l1, z_l2, z_l3, z_l4, z_l5, z_l6, z_l7, z_l8, z_l9, z_l10, z_l11, z_l12, z_l13, z_l14, z_l15, z_l16, z_l17, z_l18, z_l19, z_l20, z_l21, z_l22, z_l23, z_l24, z_l25, z_l26, z_l27, z_l28, z_l32, z_l48, z_l56, z_l57, z_l59, z_l63, z_l64, z_l96, z_l97, z_l122, z_l127, z_l152, z_l158, z_l182, z_l255, z_l256, z_l310, z_l342, z_l406, z_l440, z_l729, z_l800, z_l3960, z_l14336, z_l14592, z_l100000, x_wire_y hw hC h1, (hC.2.1 w h1).1, (hC.2.1 w h1).2, g1, g3, h2, f1, f2, n1, hc.2, e2, z_u1]
          · unfold f_X8_setKind
            simp (disch := omega) only [z_gt, z_o1, z_o2, z_o3, z_o4, z_o5, z_o6, z_o7, z_o8, z_o9, z_bn, z_jn, nI_add, z_mul, z_sub, z_div, Nat.not_lt_zero, z_cl, z_le, z_lt, z_eq, z_inb, z_nz, z_isB0, z_notJ, z_notI, z_isB1, z_m1, z_pos, z_pos', z_nlt, z_nle', z_m1le, z_m1a, z_nle, z_sI0, z_sI1, z_sI2, z_sI3, z_sJ0, z_sJ1, z_sJ2, z_sJ3, z_sF0, z_sF1, z_sF2, z_sA0, z_sA1, z_sA2, z_sA3, z_sAA, z_sIA, ↓reduceIte, Nat.reduceEqDiff, Nat.reduceLeDiff, Nat.reduceLT, z_l0, z_l1, z_l2, z_l3, z_l4, z_l5, z_l6, z_l7, z_l8, z_l9, z_l10, z_l11, z_l12, z_l13, z_l14, z_l15, z_l16, z_l17, z_l18, z_l19, z_l20, z_l21, z_l22, z_l23, z_l24, z_l25, z_l26, z_l27, z_l28, z_l32, z_l48, z_l56, z_l57, z_l59, z_l63, z_l64, z_l96, z_l97, z_l122, z_l127, z_l152, z_l158, z_l182, z_l255, z_l256, z_l310, z_l342, z_l406, z_l440, z_l729, z_l800, z_l3960, z_l14336, z_l14592, z_l100000, g_isWire_y M0 hw t0 h1, gI, hi, i2, g_right1 t0, gH, f3, f4, i3, e1, gK, e3]
        · have i3 := isIn_at (a := hv (rwv vM n) w) (b := few k) (c := mst k) (by omega) (by omega) (by omega)
          rw [if_neg hc] at i3
          refine ⟨1, nI 0, vF, vC, vH, nI 0, thM vM 2, ?_, ?_, hI.th (QM.tm _ _), Or.inr (Or.inr ⟨rfl, thM_0 _ _⟩)⟩
          · unfold f_X7_setKind
            by_cases c1 : hv (rwv vM n) w < few k
            · simp (disch := omega) only [z_gt, z_o1, z_o2, z_o3, z_o4, z_o5, z_o6, z_o7, z_o8, z_o9, z_bn, z_jn, nI_add, z_mul, z_sub, z_div, Nat.not_lt_zero, z_cl, z_le, z_lt, z_eq, z_inb, z_nz, z_isB0, z_notJ, z_notI, z_isB1, z_m1, z_pos, z_pos', z_nlt, z_nle', z_m1le, z_m1a, z_nle, z_sI0, z_sI1, z_sI2, z_sI3, z_sJ0, z_sJ1, z_sJ2, z_sJ3, z_sF0, z_sF1, z_sF2, z_sA0, z_sA1, z_sA2, z_sA3, z_sAA, z_sIA, ↓reduceIte, Nat.reduceEqDiff, Nat.reduceLeDiff, Nat.reduceLT, z_l0, z_l1, z_l2, z_l3, z_l4, z_l5, z_l6, z_l7, z_l8, z_l9, z_l10, z_l11, z_l12, z_l13, z_l14, z_l15, z_l16, z_l17, z_l18, z_l19, z_l20, z_l21, z_l22, z_l23, z_l24, z_l25, z_l26, z_l27, z_l28, z_l32, z_l48, z_l56, z_l57, z_l59, z_l63, z_l64, z_l96, z_l97, z_l122, z_l127, z_l152, z_l158, z_l182, z_l255, z_l256, z_l310, z_l342, z_l406, z_l440, z_l729, z_l800, z_l3960, z_l14336, z_l14592, z_l100000, x_wire_y hw hC h1, (hC.2.1 w h1).1, (hC.2.1 w h1).2, g1, g3, h2, f1, f2, c1]
            · have c2 : ¬ hv (rwv vM n) w ≤ mst k := by omega
              simp (disch := omega) only [z_gt, z_o1, z_o2, z_o3, z_o4, z_o5, z_o6, z_o7, z_o8, z_o9, z_bn, z_jn, nI_add, z_mul, z_sub, z_div, Nat.not_lt_zero, z_cl, z_le, z_lt, z_eq, z_inb, z_nz, z_isB0, z_notJ, z_notI, z_isB1, z_m1, z_pos, z_pos', z_nlt, z_nle', z_m1le, z_m1a, z_nle, z_sI0, z_sI1, z_sI2, z_sI3, z_sJ0, z_sJ1, z_sJ2, z_sJ3, z_sF0, z_sF1, z_sF2, z_sA0, z_sA1, z_sA2, z_sA3, z_sAA, z_sIA, ↓reduceIte, Nat.reduceEqDiff, Nat.reduceLeDiff, Nat.reduceLT, z_l0, z_l1, z_l2, z_l3, z_l4, z_l5, z_l6, z_l7, z_l8, z_l9, z_l10, z_l11, z_l12, z_l13, z_l14, z_l15, z_l16, z_l17, z_l18, z_l19, z_l20, z_l21, z_l22, z_l23, z_l24, z_l25, z_l26, z_l27, z_l28, z_l32, z_l48, z_l56, z_l57, z_l59, z_l63, z_l64, z_l96, z_l97, z_l122, z_l127, z_l152, z_l158, z_l182, z_l255, z_l256, z_l310, z_l342, z_l406, z_l440, z_l729, z_l800, z_l3960, z_l14336, z_l14592, z_l100000, x_wire_y hw hC h1, (hC.2.1 w h1).1, (hC.2.1 w h1).2, g1, g3, h2, f1, f2, c1, c2]
          · unfold f_X8_setKind
            simp (disch := omega) only [z_gt, z_o1, z_o2, z_o3, z_o4, z_o5, z_o6, z_o7, z_o8, z_o9, z_bn, z_jn, nI_add, z_mul, z_sub, z_div, Nat.not_lt_zero, z_cl, z_le, z_lt, z_eq, z_inb, z_nz, z_isB0, z_notJ, z_notI, z_isB1, z_m1, z_pos, z_pos', z_nlt, z_nle', z_m1le, z_m1a, z_nle, z_sI0, z_sI1, z_sI2, z_sI3, z_sJ0, z_sJ1, z_sJ2, z_sJ3, z_sF0, z_sF1, z_sF2, z_sA0, z_sA1, z_sA2, z_sA3, z_sAA, z_sIA, ↓reduceIte, Nat.reduceEqDiff, Nat.reduceLeDiff, Nat.reduceLT, z_l0, z_l1, z_l2, z_l3, z_l4, z_l5, z_l6, z_l7, z_l8, z_l9, z_l10, z_l11, z_l12, z_l13, z_l14, z_l15, z_l16, z_l17, z_l18, z_l19, z_l20, z_l21, z_l22, z_l23, z_l24, z_l25, z_l26, z_l27, z_l28, z_l32, z_l48, z_l56, z_l57, z_l59, z_l63, z_l64, z_l96, z_l97, z_l122, z_l127, z_l152, z_l158, z_l182, z_l255, z_l256, z_l310, z_l342, z_l406, z_l440, z_l729, z_l800, z_l3960, z_l14336, z_l14592, z_l100000, g_isWire_y M0 hw t0 h1, gI, hi, i2, g_right1 t0, gH, f3, f4, i3, rgt2, thM]
      · have i2 := g_isIn_n h2 (by omega)
        rw [z_l0, z_l1, z_sub (by omega)] at i2
        refine ⟨1, nI 0, vF, vC, vH, nI 0, thM vM 2, ?_, ?_, hI.th (QM.tm _ _), Or.inr (Or.inr ⟨rfl, thM_0 _ _⟩)⟩
        · unfold f_X7_setKind
          rw [x_wire_y hw hC h1, z_o1, if_pos rfl, z_inb (by omega) (by omega), z_gt, z_jn, z_cl (by omega), (hC.2.1 w h1).1, g1, if_neg hk1, cls_out h2 (by omega) z_l9]
          rfl
        · unfold f_X8_setKind
          simp (disch := omega) only [z_gt, z_o1, z_o2, z_o3, z_o4, z_o5, z_o6, z_o7, z_o8, z_o9, z_bn, z_jn, nI_add, z_mul, z_sub, z_div, Nat.not_lt_zero, z_cl, z_le, z_lt, z_eq, z_inb, z_nz, z_isB0, z_notJ, z_notI, z_isB1, z_m1, z_pos, z_pos', z_nlt, z_nle', z_m1le, z_m1a, z_nle, z_sI0, z_sI1, z_sI2, z_sI3, z_sJ0, z_sJ1, z_sJ2, z_sJ3, z_sF0, z_sF1, z_sF2, z_sA0, z_sA1, z_sA2, z_sA3, z_sAA, z_sIA, ↓reduceIte, Nat.reduceEqDiff, Nat.reduceLeDiff, Nat.reduceLT, z_l0, z_l1, z_l2, z_l3, z_l4, z_l5, z_l6, z_l7, z_l8, z_l9, z_l10, z_l11, z_l12, z_l13, z_l14, z_l15, z_l16, z_l17, z_l18, z_l19, z_l20, z_l21, z_l22, z_l23, z_l24, z_l25, z_l26, z_l27, z_l28, z_l32, z_l48, z_l56, z_l57, z_l59, z_l63, z_l64, z_l96, z_l97, z_l122, z_l127, z_l152, z_l158, z_l182, z_l255, z_l256, z_l310, z_l342, z_l406, z_l440, z_l729, z_l800, z_l3960, z_l14336, z_l14592, z_l100000, g_isWire_y M0 hw t0 h1, gI, hi, i2, rgt2, thM]
  · refine ⟨2, nI 0, vF, vC, vH, nI 0, thM vM 1, ?_, ?_, hI.th (QM.tm _ _), Or.inr (Or.inl ⟨rfl, thM_0 _ _⟩)⟩
    · unfold f_X7_setKind
      rw [x_wire_n hC h1, z_o1, if_neg (by decide)]
      rfl
    · unfold f_X8_setKind
      simp (disch := omega) only [z_gt, z_o1, z_o2, z_o3, z_o4, z_o5, z_o6, z_o7, z_o8, z_o9, z_bn, z_jn, nI_add, z_mul, z_sub, z_div, Nat.not_lt_zero, z_cl, z_le, z_lt, z_eq, z_inb, z_nz, z_isB0, z_notJ, z_notI, z_isB1, z_m1, z_pos, z_pos', z_nlt, z_nle', z_m1le, z_m1a, z_nle, z_sI0, z_sI1, z_sI2, z_sI3, z_sJ0, z_sJ1, z_sJ2, z_sJ3, z_sF0, z_sF1, z_sF2, z_sA0, z_sA1, z_sA2, z_sA3, z_sAA, z_sIA, ↓reduceIte, Nat.reduceEqDiff, Nat.reduceLeDiff, Nat.reduceLT, z_l0, z_l1, z_l2, z_l3, z_l4, z_l5, z_l6, z_l7, z_l8, z_l9, z_l10, z_l11, z_l12, z_l13, z_l14, z_l15, z_l16, z_l17, z_l18, z_l19, z_l20, z_l21, z_l22, z_l23, z_l24, z_l25, z_l26, z_l27, z_l28, z_l32, z_l48, z_l56, z_l57, z_l59, z_l63, z_l64, z_l96, z_l97, z_l122, z_l127, z_l152, z_l158, z_l182, z_l255, z_l256, z_l310, z_l342, z_l406, z_l440, z_l729, z_l800, z_l3960, z_l14336, z_l14592, z_l100000, g_isWire_n M0 hw t0 h1, thM]
