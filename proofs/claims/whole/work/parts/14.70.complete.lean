/-! complete: both go the same way -/
theorem z_p1 (n : Nat) : nI n + (1 : Int32) = nI (n + 1) := by rw [z_l1, nI_add]
theorem q_complete {vM vF vC vT vRT vG vB vRF vGF vBF vD : Vs} {vH : Hv} (hI : INV vM vF vC vT vRT vG vRF vD vH) :
    ∃ x vF' vT' vRT' vG' vB' vRF' vGF' vBF' vH' vM', f_X7_complete vF vC vT 342 vRT vG vB 1368 vRF vGF vBF vH = some (x, vF', vT', vRT', vG', vB', vRF', vGF', vBF', vH') ∧ f_X8_complete vM = some (x, vM') ∧ INV vM' vF' vC vT' vRT' vG' vRF' vD vH' := by
  obtain ⟨n, hn3, hn9, hG, hF, hH, hX⟩ := id hI
  obtain ⟨hw, ht, hC, hT⟩ := id hG
  obtain ⟨r, hr⟩ : ∃ r, r = rwv vM n := ⟨_, rfl⟩
  have hn := hw.nf
  have h16 := ht.1.2
  have hfl := fulls_256 hw
  obtain ⟨v1, h1', e1, e2, m1, k1, k2, hHX⟩ := q_change (v := sF vM 0 (nI 0)) hn3 hn9 hG (hH.qm (QM.th _ _))
  have m1 : MS v1 ((n + 1) % 9) (rwv vM n) := m1
  obtain ⟨N, hN⟩ : ∃ N, N = (n + 1) % 9 := ⟨_, rfl⟩
  have hN9 : N < 9 := by omega
  rw [← hN] at m1 hHX
  have hX1 := hHX v1 (KR.rf _ _)
  obtain ⟨v2, e3, s2, l2⟩ := h_lays2 m1 hw
  have m2 := m1.sc s2 (by decide)
  obtain ⟨v3, e4, s3, l3⟩ := h_finders m2 hw ht
  have m3 := m2.sc s3 (by decide)
  have l23 : LY v3 (rwv vM n) := fun K hK p hp => by rw [s3.2 10 (by decide)]; exact l2 K hK p hp
  obtain ⟨all, vF4, vRT5, vG6, vB7, e5, hF4, -, -, hall, -⟩ := y_foundTests hw ht (vB := vB) hC hT hF
  obtain ⟨vF9, vRF10, vGF11, vBF12, e6, hF9, -, -, hbits⟩ := y_foundFull hw (vGF := vGF) (vBF := vBF) hC hF4
  rw [← hr] at hw ht hC hT m1 m2 m3 l23 l3 hall hF9 hbits hn h16 hfl
  have eB : f_X8_complete vM = lp f_X8_complete_L21 (fun _ _ _ => none) FU (0 : Int32) (1 : Int32) v3 := by
    unfold f_X8_complete
    rw [z_bn, z_l0, e1, z_o1, e3, z_o1, e4, z_o1]
  have eA : f_X7_complete vF vC vT 342 vRT vG vB 1368 vRF vGF vBF vH = lp (f_X7_complete_L29 vC h1' vRT5 vG6 vB7 vF9 vRF10 vGF11 vBF12) (fun _ _ _ _ => none) FU (~~~all) (nI 0) (nI 0) vT := by
    unfold f_X7_complete
    rw [e2, z_o1, e5, z_o5, e6, z_o4, z_notJ]
    rfl
  -- the class's own step
  have st : ∀ (self : Int64 → Int32 → Int32 → Vs → Option (Int32 × Vs × Vs × Vs × Vs × Vs × Vs × Vs × Vs × Hv)) (left : Int64) (L : Nat → Bool) (c : Nat) (s : Nat → Int32) (u : Vs), c ≤ NT s → NT s ≤ 16 → RT s u → (∀ f, f < NF r → bJ left f = L f) →
      (16 ≤ NT s ∨ (bsN (gN r L) (2 ^ NI r)).1 = im1 → f_X7_complete_L29 vC h1' vRT5 vG6 vB7 vF9 vRF10 vGF11 vBF12 self left (nI c) (nI c) u = some (nI c, sF vF9 6 (nI 0), u, vRT5, vG6, vB7, vRF10, vGF11, vBF12, h1')) ∧
      (∀ b u', ¬ 16 ≤ NT s → b < 2 ^ NI r → (bsN (gN r L) (2 ^ NI r)).1 = nI b → f_X6_put u (nI b) (nI 0) = some u' → f_X7_complete_L29 vC h1' vRT5 vG6 vB7 vF9 vRF10 vGF11 vBF12 self left (nI c) (nI c) u = self (left &&& ~~~(vF9.2.2 11 b)) (nI (c + 1)) (nI (c + 1)) u') := by
    intro self left L c s u hc hs16 hu hL
    have eb := x_best hw hC hbits hL
    refine ⟨fun h => ?_, fun b u' h1 h2 h3 h4 => ?_⟩
    · unfold f_X7_complete_L29
      by_cases c16 : 16 ≤ c
      · simp (disch := omega) only [z_gt, z_o1, z_o2, z_o3, z_o4, z_o5, z_o6, z_o7, z_o8, z_o9, z_bn, z_jn, nI_add, z_mul, z_sub, z_div, Nat.not_lt_zero, z_cl, z_le, z_lt, z_eq, z_inb, z_nz, z_isB0, z_notJ, z_notI, z_isB1, z_m1, z_pos, z_pos', z_nlt, z_nle', z_m1le, z_m1a, z_nle, z_sI0, z_sI1, z_sI2, z_sI3, z_sJ0, z_sJ1, z_sJ2, z_sJ3, z_sF0, z_sF1, z_sF2, z_sA0, z_sA1, z_sA2, z_sA3, z_sAA, z_sIA, ↓reduceIte, Nat.reduceEqDiff, Nat.reduceLeDiff, Nat.reduceLT, z_l0, z_l1, z_l2, z_l3, z_l4, z_l5, z_l6, z_l7, z_l8, z_l9, z_l10, z_l11, z_l12, z_l13, z_l14, z_l15, z_l16, z_l17, z_l18, z_l19, z_l20, z_l21, z_l22, z_l23, z_l24, z_l25, z_l26, z_l27, z_l28, z_l32, z_l48, z_l56, z_l57, z_l59, z_l63, z_l64, z_l96, z_l97, z_l122, z_l127, z_l152, z_l158, z_l182, z_l255, z_l256, z_l310, z_l342, z_l406, z_l440, z_l729, z_l800, z_l3960, z_l14336, z_l14592, z_l100000, c16]
      · by_cases t16 : 16 ≤ NT s
        · simp (disch := omega) only [z_gt, z_o1, z_o2, z_o3, z_o4, z_o5, z_o6, z_o7, z_o8, z_o9, z_bn, z_jn, nI_add, z_mul, z_sub, z_div, Nat.not_lt_zero, z_cl, z_le, z_lt, z_eq, z_inb, z_nz, z_isB0, z_notJ, z_notI, z_isB1, z_m1, z_pos, z_pos', z_nlt, z_nle', z_m1le, z_m1a, z_nle, z_sI0, z_sI1, z_sI2, z_sI3, z_sJ0, z_sJ1, z_sJ2, z_sJ3, z_sF0, z_sF1, z_sF2, z_sA0, z_sA1, z_sA2, z_sA3, z_sAA, z_sIA, ↓reduceIte, Nat.reduceEqDiff, Nat.reduceLeDiff, Nat.reduceLT, z_l0, z_l1, z_l2, z_l3, z_l4, z_l5, z_l6, z_l7, z_l8, z_l9, z_l10, z_l11, z_l12, z_l13, z_l14, z_l15, z_l16, z_l17, z_l18, z_l19, z_l20, z_l21, z_l22, z_l23, z_l24, z_l25, z_l26, z_l27, z_l28, z_l32, z_l48, z_l56, z_l57, z_l59, z_l63, z_l64, z_l96, z_l97, z_l122, z_l127, z_l152, z_l158, z_l182, z_l255, z_l256, z_l310, z_l342, z_l406, z_l440, z_l729, z_l800, z_l3960, z_l14336, z_l14592, z_l100000, c16, hu.1, t16]
        · rcases h with h | h
          · exact absurd h t16
          · simp (disch := omega) only [z_gt, z_o1, z_o2, z_o3, z_o4, z_o5, z_o6, z_o7, z_o8, z_o9, z_bn, z_jn, nI_add, z_mul, z_sub, z_div, Nat.not_lt_zero, z_cl, z_le, z_lt, z_eq, z_inb, z_nz, z_isB0, z_notJ, z_notI, z_isB1, z_m1, z_pos, z_pos', z_nlt, z_nle', z_m1le, z_m1a, z_nle, z_sI0, z_sI1, z_sI2, z_sI3, z_sJ0, z_sJ1, z_sJ2, z_sJ3, z_sF0, z_sF1, z_sF2, z_sA0, z_sA1, z_sA2, z_sA3, z_sAA, z_sIA, ↓reduceIte, Nat.reduceEqDiff, Nat.reduceLeDiff, Nat.reduceLT, z_l0, z_l1, z_l2, z_l3, z_l4, z_l5, z_l6, z_l7, z_l8, z_l9, z_l10, z_l11, z_l12, z_l13, z_l14, z_l15, z_l16, z_l17, z_l18, z_l19, z_l20, z_l21, z_l22, z_l23, z_l24, z_l25, z_l26, z_l27, z_l28, z_l32, z_l48, z_l56, z_l57, z_l59, z_l63, z_l64, z_l96, z_l97, z_l122, z_l127, z_l152, z_l158, z_l182, z_l255, z_l256, z_l310, z_l342, z_l406, z_l440, z_l729, z_l800, z_l3960, z_l14336, z_l14592, z_l100000, c16, hu.1, t16, eb, h]
    · have c16 : ¬ 16 ≤ c := by omega
      have b0 : 0 ≤ b := Nat.zero_le b
      unfold f_X7_complete_L29
      simp (disch := omega) only [z_gt, z_o1, z_o2, z_o3, z_o4, z_o5, z_o6, z_o7, z_o8, z_o9, z_bn, z_jn, nI_add, z_mul, z_sub, z_div, Nat.not_lt_zero, z_cl, z_le, z_lt, z_eq, z_inb, z_nz, z_isB0, z_notJ, z_notI, z_isB1, z_m1, z_pos, z_pos', z_nlt, z_nle', z_m1le, z_m1a, z_nle, z_sI0, z_sI1, z_sI2, z_sI3, z_sJ0, z_sJ1, z_sJ2, z_sJ3, z_sF0, z_sF1, z_sF2, z_sA0, z_sA1, z_sA2, z_sA3, z_sAA, z_sIA, ↓reduceIte, Nat.reduceEqDiff, Nat.reduceLeDiff, Nat.reduceLT, z_l0, z_l1, z_l2, z_l3, z_l4, z_l5, z_l6, z_l7, z_l8, z_l9, z_l10, z_l11, z_l12, z_l13, z_l14, z_l15, z_l16, z_l17, z_l18, z_l19, z_l20, z_l21, z_l22, z_l23, z_l24, z_l25, z_l26, z_l27, z_l28, z_l32, z_l48, z_l56, z_l57, z_l59, z_l63, z_l64, z_l96, z_l97, z_l122, z_l127, z_l152, z_l158, z_l182, z_l255, z_l256, z_l310, z_l342, z_l406, z_l440, z_l729, z_l800, z_l3960, z_l14336, z_l14592, z_l100000, c16, hu.1, h1, eb, h3, h4, b0]
  obtain ⟨Lc, hLc⟩ : ∃ Lc, Lc = lp (f_X7_complete_L29 vC h1' vRT5 vG6 vB7 vF9 vRF10 vGF11 vBF12) (fun _ _ _ _ => none) := ⟨_, rfl⟩
  rw [← hLc] at eA
  have key : Ok (lp f_X8_complete_L21 (fun _ _ _ => none) FU (0 : Int32) (1 : Int32) v3) (fun q => ∃ u s, Lc FU (~~~all) (nI 0) (nI 0) vT = some (q.1, sF vF9 6 (nI 0), u, vRT5, vG6, vB7, vRF10, vGF11, vBF12, h1') ∧ MS q.2 N s ∧ (∀ k, k < 182 → k ≠ 4 → s k = r k) ∧ WFt s ∧ RT s u ∧ KQ N v1 q.2) := by
    have kq3 : KQ N v1 v3 := (KQ.sc s2 (by decide) (by decide)).tr (KQ.sc s3 (by decide) (by decide))
    refine zl3 (I := fun m x y v => ∃ c s u left k', x = nI c ∧ MS v N s ∧ (∀ k, k < 182 → k ≠ 4 → s k = r k) ∧ WFt s ∧ RT s u ∧ KQ N v1 v ∧ c ≤ NT s ∧ ((y = nI 1 ∧ m = 17 - NT s ∧ LY v r ∧ (∀ f, f < NF r → bJ left f = decide (v.2.1 9 f = nI 0)) ∧ Lc FU (~~~all) (nI 0) (nI 0) vT = Lc k' left (nI c) (nI c) u ∧ 17 - NT s < k') ∨ (y = nI 0 ∧ Lc FU (~~~all) (nI 0) (nI 0) vT = some (nI c, sF vF9 6 (nI 0), u, vRT5, vG6, vB7, vRF10, vGF11, vBF12, h1')))) ?_ FU (17 - NT r) _ _ _ (by unfold FU; omega) ⟨0, r, vT, ~~~all, FU, rfl, m3, fun _ _ _ => rfl, ht, hT, kq3, Nat.zero_le _, Or.inl ⟨rfl, rfl, l23, fun f hf => ?_, rfl, by unfold FU; omega⟩⟩
    · rintro m x y v self ⟨c, s, u, left, k', rfl, hm, hlow, hts, hu, hkq, hcs, hcase⟩ ih
      have hs16 := hts.1.2
      have hws : WFc s := hw.of hlow
      unfold f_X8_complete_L21
      rw [z_jn]
      rcases hcase.symm with ⟨rfl, hdone⟩ | ⟨rfl, rfl, hl, hL, hrun, hk⟩
      · rw [z_l0, if_pos rfl]
        exact ok_some ⟨u, s, hdone, hm, hlow, hts, hu, hkq⟩
      rw [z_l0, ief (by omega) (by omega) (by omega)]
      refine ok_o1e (g_tests hm hts) ?_
      obtain ⟨k'', rfl⟩ : ∃ k'', k' = k'' + 1 := ⟨k' - 1, by omega⟩
      have hstep : Lc (k'' + 1) left (nI c) (nI c) u = f_X7_complete_L29 vC h1' vRT5 vG6 vB7 vF9 vRF10 vGF11 vBF12 (Lc k'') left (nI c) (nI c) u := by rw [hLc]; rfl
      obtain ⟨sA1, sA2⟩ := st (Lc k'') left (fun f => decide (v.2.1 9 f = nI 0)) c s u hcs hs16 hu hL
      by_cases t16 : 16 ≤ NT s
      · rw [z_l16, ift t16 (by omega)]
        exact ok_some ⟨u, s, by rw [hrun, hstep, sA1 (Or.inl t16)], hm, hlow, hts, hu, hkq⟩
      rw [z_l16, iff_ t16 (by omega)]
      have eNI : NI s = NI r := by show nn (s 0) = _; rw [hlow 0 (by omega) (by omega)]
      have eNW : NW s = NW r := by show nn (s 1) = _; rw [hlow 1 (by omega) (by omega)]
      have eNB : NB s = NB r := by show nn (s 3) = _; rw [hlow 3 (by omega) (by omega)]
      have eNF : NF s = NF r := by show 2 * NW s + NB s = _; rw [eNW, eNB]
      have b56 := bsN_le (gN_le hw (fun f => decide (v.2.1 9 f = nI 0)))
      refine zl3 (I := fun m x y z => ∃ K, x = (bsN (gN r (fun f => decide (v.2.1 9 f = nI 0))) K).1 ∧ y = nI (bsN (gN r (fun f => decide (v.2.1 9 f = nI 0))) K).2 ∧ z = nI K ∧ K ≤ 2 ^ NI r ∧ m = 2 ^ NI r - K) ?_ FU (2 ^ NI r) _ _ _ (by unfold FU; omega) ⟨0, rfl, rfl, rfl, by omega, by omega⟩
      rintro m x y z self2 ⟨K, rfl, rfl, rfl, hle, rfl⟩ ih2
      unfold f_X8_complete_L42
      have gF := g_fulls hm hws
      rw [eNI] at gF
      refine ok_o1e gF ?_
      by_cases hb : 2 ^ NI r ≤ K
      · rw [ift hb (by omega), z_jn]
        have : K = 2 ^ NI r := by omega
        subst this
        rcases bsN_or (gN r (fun f => decide (v.2.1 9 f = nI 0))) (2 ^ NI r) with hbest | ⟨b, hb2, hbest⟩
        · rw [hbest, if_pos (show im1 = (-1 : Int32) from rfl)]
          refine ok_rw (if_pos (rfl : (0 : Int32) = 0)) ?_
          exact ih 0 _ _ _ (by omega) ⟨c, s, u, left, k'', rfl, hm, hlow, hts, hu, hkq, hcs, Or.inr ⟨rfl, by rw [hrun, hstep, sA1 (Or.inr hbest)]⟩⟩
        · rw [hbest, if_neg (show ¬ nI b = (-1 : Int32) from fun q => (z_pos' (show b < 2147483648 by omega)).mp q)]
          refine ok_rw (if_neg (show ¬ (1 : Int32) = 0 by decide)) ?_
          obtain ⟨v5, s5, e7, m5, K5, hA⟩ := h_adds hm hws hts (by omega) (a := b) (b := 0) (by omega) (by omega)
          obtain ⟨ws5, ts5, low5, eNT5, u5, e8, hu5⟩ := add_ok hws hts (by omega) (Nat.and_zero b) hA hu
          have low5' : ∀ k, k < 182 → k ≠ 4 → s5 k = r k := fun k h1 h2 => by rw [low5 k h1 h2, hlow k h1 h2]
          have eNW5 : NW s5 = NW r := by show nn (s5 1) = _; rw [low5' 1 (by omega) (by omega)]
          have eNB5 : NB s5 = NB r := by show nn (s5 3) = _; rw [low5' 3 (by omega) (by omega)]
          have eNF5 : NF s5 = NF r := by show 2 * NW s5 + NB s5 = _; rw [eNW5, eNB5]
          rw [z_l0]
          refine ok_o1e e7 ?_
          have h9 : v5.2.1 9 = v.2.1 9 := K5.2.1 9 (by decide)
          have h10 : v5.2.1 10 = v.2.1 10 := K5.2.1 10 (by decide)
          refine zl2 (I := fun m x w => ∃ f g, x = nI f ∧ w = sA v5 9 g ∧ f ≤ NF r ∧ m = NF r - f ∧ (∀ j, j < f → decide (g j = nI 0) = (decide (v.2.1 9 j = nI 0) && !DF r (j + 1) 0 b)) ∧ ∀ j, f ≤ j → g j = v.2.1 9 j) ?_ FU (NF r) _ _ (by unfold FU; omega) ⟨0, v5.2.1 9, rfl, (z_sAs v5 9).symm, by omega, by omega, fun j hj => by omega, fun j _ => by rw [h9]⟩
          rintro m x w self3 ⟨f, g, rfl, rfl, hle3, rfl, hg1, hg2⟩ ih3
          have mw := m5.sA 9 g (by decide)
          unfold f_X8_complete_L170
          have gF5 := g_faults mw ws5
          rw [eNF5] at gF5
          refine ok_o1e gF5 ?_
          by_cases hb3 : NF r ≤ f
          · rw [ift hb3 (by omega), z_l1, nI_add]
            have : f = NF r := by omega
            subst this
            refine ih (17 - NT s5) _ _ _ (by omega) ⟨c + 1, s5, u5, left &&& ~~~(vF9.2.2 11 b), k'', rfl, mw, low5', ts5, hu5, (hkq.tr (KQ.kr K5)).tr ⟨rfl, z_sA3 _ _ _ (by decide), fun m _ _ k _ => by rw [z_sA3 _ _ _ (by decide)]⟩, by omega, Or.inl ⟨rfl, rfl, fun J hJ p hp => ?_, fun f hf => ?_, ?_, by omega⟩⟩
            · rw [z_sA3 _ _ _ (by decide), h10]
              exact hl J hJ p hp
            · rw [bJ_and, bJ_not _ (by omega), hL f hf, hbits b f hb2 (by omega), z_sA2, hg1 f hf]
              simp [hf]
            · rw [hrun, hstep, sA2 b u5 t16 hb2 hbest e8]
          · rw [iff_ hb3 (by omega), z_l256, z_l14336, z_mul, nI_add, nI_add]
            refine ok_gd (z_inb (by omega) (by omega)) ?_
            refine ok_gd (z_inb (by omega) (by omega)) ?_
            have l1 := hl b hb2 (f + 1) (by omega)
            have l0 := hl b hb2 0 (by omega)
            rw [show ix (f + 1) = f from rfl] at l1
            rw [show 256 * ix 0 + b = 14336 + b from rfl] at l0
            have w1 := BW_64 hw (p := f + 1) (N := b) (by omega)
            have w0 := BW_64 hw (p := 0) (N := b) (by omega)
            rw [z_jn, z_cl (by omega), z_cl (by omega), z_sA3 _ _ _ (by decide), h10, l1, l0]
            by_cases cd : BW r (f + 1) b = BW r 0 b
            · rw [iet cd, z_l1, nI_add]
              refine ih3 _ _ _ (by omega) ⟨f + 1, g, rfl, rfl, by omega, rfl, fun j hj => ?_, fun j hj => hg2 j (by omega)⟩
              by_cases ej : j = f
              · rw [ej, hg2 f (by omega)]
                unfold DF
                simp [cd]
              · exact hg1 j (by omega)
            · rw [ief cd (by omega) (by omega)]
              refine ok_gd (z_inb (by omega) (by omega)) ?_
              refine ok_bn ?_
              rw [z_cl (by omega), z_l1, nI_add, z_sIA, z_sAA, z_sA2]
              refine ih3 _ _ _ (by omega) ⟨f + 1, _, rfl, rfl, by omega, rfl, fun j hj => ?_, fun j hj => ?_⟩
              · by_cases ej : j = f
                · rw [z_u1 _ _ ej, ej]
                  unfold DF
                  have n10 : ¬ nI 1 = nI 0 := by decide
                  simp [cd, n10]
                · rw [z_u2 _ _ ej]
                  exact hg1 j (by omega)
              · rw [z_u2 _ _ (by omega)]
                exact hg2 j (by omega)
      · rw [iff_ hb (by omega)]
        have es : bsN (gN r (fun f => decide (v.2.1 9 f = nI 0))) (K + 1) = if gN r (fun f => decide (v.2.1 9 f = nI 0)) K ≤ (bsN (gN r (fun f => decide (v.2.1 9 f = nI 0))) K).2 then bsN (gN r (fun f => decide (v.2.1 9 f = nI 0))) K else (nI K, gN r (fun f => decide (v.2.1 9 f = nI 0)) K) := rfl
        have g56 := gN_le hw (fun f => decide (v.2.1 9 f = nI 0)) K
        have b56K := b56 K
        refine h_gain hm hws hw eNF hl (by omega) _ _ _ ?_
        rw [z_jn]
        by_cases hc : gN r (fun f => decide (v.2.1 9 f = nI 0)) K ≤ (bsN (gN r (fun f => decide (v.2.1 9 f = nI 0))) K).2
        · rw [ilf (by omega) (by omega), z_p1]
          rw [if_pos hc] at es
          exact ih2 _ _ _ _ (by omega) ⟨K + 1, by rw [es], by rw [es], rfl, by omega, rfl⟩
        · rw [ilt (by omega) (by omega), z_p1]
          rw [if_neg hc] at es
          exact ih2 _ _ _ _ (by omega) ⟨K + 1, by rw [es], by rw [es], rfl, by omega, rfl⟩
    · rw [bJ_not _ (by omega), l3 f hf]
      have h1 := hall f (by omega)
      have h2 := fbN_0 r f (NT r)
      have h3 := fbN_lt r f (NT r)
      have h4 : 2 ^ NT r ≤ 2 ^ 16 := Nat.pow_le_pow_right (by omega) h16
      have h5 : (nI (fbN r f (NT r)) = nI 0) = (fbN r f (NT r) = 0) := z_eq (by omega) (by omega)
      by_cases hz : fbN r f (NT r) = 0
      · have hq : bJ all f = false := by
          cases hq : bJ all f with
          | false => rfl
          | true =>
            obtain ⟨t, a, -, b⟩ := h1.mp hq
            exact absurd hz (h2.mpr ⟨t, a, b⟩)
        simp [hq, h5, hz]
      · obtain ⟨t, a, b⟩ := h2.mp hz
        have hq := h1.mpr ⟨t, a, hf, b⟩
        simp [hq, h5, hz]
  obtain ⟨⟨x, v'⟩, eR, u, s, eL, hm, hlow, hts, hu, hkq⟩ := key
  have hm : MS v' N s := hm
  have hkq : KQ N v1 v' := hkq
  have hrs : ∀ k, k < 440 → rwv v' N k = s k := fun k hk => hm.rw hk
  have hlow2 : ∀ k, k < 182 → k ≠ 4 → rwv v' N k = r k := fun k h1 h2 => by rw [hrs k (by omega), hlow k h1 h2]
  have nis : NI s ≤ 8 := (hw.of hlow).nf.2.2.1
  refine ⟨x, sF vF9 6 (nI 0), u, vRT5, vG6, vB7, vRF10, vGF11, vBF12, h1', v', by rw [eA, eL], by rw [eB, eR], N, hm.1, hm.2.1, ⟨hw.of hlow2, hts.of nis (hrs 0 (by omega)) (hrs 4 (by omega)) (fun k _ h => hrs k h), hC.of hw hlow2, hu.of nis hts.1.2 (hrs 0 (by omega)) (hrs 2 (by omega)) (hrs 4 (by omega)) (fun k _ h => hrs k h)⟩, FI.tests hw hlow2 hF9 (z_sF1 _ _ _) (z_sF2 _ _ _ (by decide)) rfl, hX1.kq hN9 hkq, hX.same ?_ ?_ ?_⟩
  · rw [hkq.1, k1 12 (by decide) (by decide)]
    rfl
  · rw [hkq.1, k1 16 (by decide) (by decide)]
    rfl
  · rw [hkq.2.1, k2 11 (by decide)]
    rfl
