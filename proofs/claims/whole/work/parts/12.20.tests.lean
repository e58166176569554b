/-! tellsApart, worth -/
theorem g_tells {v : Vs} {n : Nat} {r : Nat → Int32} (h : MS v n r) (hw : WFc r) {ask : Nat → Nat} (ha : AS v r ask) {f g : Nat} (hg : g < NF r) (hb : ∀ w, w < NW r → v.2.1 8 w = nI (bad r ask (f + 1) w)) :
    Ok (lp (f_X8_tellsApart_L44 (nI g)) (fun _ _ => none) FU (nI 0) v) (fun q => SC [8, 20] v q.2 ∧ ((q.1 = nI 1 ∧ apartN (bad r ask (f + 1)) (bad r ask (g + 1)) r (NO r)) ∨ (q.1 = nI 0 ∧ ¬ apartN (bad r ask (f + 1)) (bad r ask (g + 1)) r (NO r)))) := by
  have hn := hw.nf
  refine zl2 (I := fun m x v' => ∃ o, x = nI o ∧ o ≤ NO r ∧ m = NO r - o ∧ SC [20] v v' ∧ ∀ u, u < o → v'.2.1 20 u = nI (bad r ask (f + 1) (ou r u))) ?_ FU (NO r) _ _ (by unfold FU; omega) ⟨0, rfl, by omega, by omega, SC.rf _ _, fun u hu => by omega⟩
  rintro m x v' self ⟨o, rfl, hle, rfl, hs, hz⟩ ih
  have hm := h.sc hs (by decide)
  unfold f_X8_tellsApart_L44
  refine ok_o1e (g_outputs hm hw) ?_
  by_cases hq : NO r ≤ o
  · rw [ift hq (by omega)]
    obtain ⟨v2, e2, s2, b2⟩ := h_bends hm hw (ha.sc hs (by decide) (by decide)) (p := g + 1) (by omega)
    rw [fI_s] at e2
    refine ok_o1e e2 ?_
    have hm2 := hm.sc s2 (by decide)
    have hz2 : ∀ u, u < NO r → v2.2.1 20 u = nI (bad r ask (f + 1) (ou r u)) := fun u hu => by
      rw [s2.2 20 (by decide)]
      exact hz u (by omega)
    have hss : SC [8, 20] v v2 := (hs.mono (by decide)).tr (s2.mono (by decide))
    refine zl1 (I := fun m x => ∃ o, x = nI o ∧ o ≤ NO r ∧ m = NO r - o ∧ ¬ apartN (bad r ask (f + 1)) (bad r ask (g + 1)) r o) ?_ FU (NO r) _ (by unfold FU; omega) ⟨0, rfl, by omega, by omega, fun ⟨u, hu, _⟩ => by omega⟩
    clear ih
    rintro m x self2 ⟨o, rfl, hle2, rfl, hno⟩ ih
    unfold f_X8_tellsApart_L84
    refine ok_o1e (g_outputs hm2 hw) ?_
    by_cases hq2 : NO r ≤ o
    · rw [ift hq2 (by omega)]
      have e : o = NO r := by omega
      subst e
      exact ok_some ⟨hss, Or.inr ⟨rfl, hno⟩⟩
    · rw [iff_ hq2 (by omega)]
      refine ok_gd (z_inb (by omega) (by omega)) ?_
      obtain ⟨d1, d2⟩ := g_atBent hm2 hw (o := o) (by omega)
      rw [b2 _ d2] at d1
      have p1 := bad_2 hw (fun i hi => (ha.1 i hi).2) (f + 1) (ou r o + 1) _ (by omega) d2
      have p2 := bad_2 hw (fun i hi => (ha.1 i hi).2) (g + 1) (ou r o + 1) _ (by omega) d2
      have hstep : apartN (bad r ask (f + 1)) (bad r ask (g + 1)) r (o + 1) → apartN (bad r ask (f + 1)) (bad r ask (g + 1)) r o ∨ (bad r ask (f + 1) (ou r o) ≠ 2 ∧ bad r ask (g + 1) (ou r o) ≠ 2 ∧ bad r ask (f + 1) (ou r o) ≠ bad r ask (g + 1) (ou r o)) := by
        rintro ⟨u, hu, z⟩
        by_cases e : u = o
        · rw [e] at z; exact Or.inr z
        · exact Or.inl ⟨u, by omega, z⟩
      have next : ¬ (bad r ask (f + 1) (ou r o) ≠ 2 ∧ bad r ask (g + 1) (ou r o) ≠ 2 ∧ bad r ask (f + 1) (ou r o) ≠ bad r ask (g + 1) (ou r o)) → Ok (self2 (nI (o + 1))) (fun q => SC [8, 20] v q.2 ∧ ((q.1 = nI 1 ∧ apartN (bad r ask (f + 1)) (bad r ask (g + 1)) r (NO r)) ∨ (q.1 = nI 0 ∧ ¬ apartN (bad r ask (f + 1)) (bad r ask (g + 1)) r (NO r)))) := fun hne => by
        refine ih _ _ (by omega) ⟨o + 1, rfl, by omega, rfl, fun z => ?_⟩
        rcases hstep z with z | z
        · exact hno z
        · exact hne z
      have yes : (bad r ask (f + 1) (ou r o) ≠ 2 ∧ bad r ask (g + 1) (ou r o) ≠ 2 ∧ bad r ask (f + 1) (ou r o) ≠ bad r ask (g + 1) (ou r o)) → apartN (bad r ask (f + 1)) (bad r ask (g + 1)) r (NO r) := fun z => ⟨o, by omega, z⟩
      have hzo := hz2 o (by omega)
      generalize bad r ask (f + 1) (ou r o) = y1 at p1 hzo next yes
      generalize bad r ask (g + 1) (ou r o) = y2 at p2 d1 next yes
      by_cases c1 : y1 = 2
      · have nx := next (fun z => z.1 c1)
        simp (disch := omega) only [z_gt, z_o1, z_o2, z_o3, z_o4, z_o5, z_o6, z_o7, z_o8, z_o9, z_bn, z_jn, nI_add, z_mul, z_sub, z_div, Nat.not_lt_zero, z_cl, z_le, z_lt, z_eq, z_inb, z_nz, z_isB0, z_notJ, z_notI, z_isB1, z_m1, z_pos, z_pos', z_nlt, z_nle', z_m1le, z_m1a, z_nle, z_sI0, z_sI1, z_sI2, z_sI3, z_sJ0, z_sJ1, z_sJ2, z_sJ3, z_sF0, z_sF1, z_sF2, z_sA0, z_sA1, z_sA2, z_sA3, z_sAA, z_sIA, ↓reduceIte, Nat.reduceEqDiff, Nat.reduceLeDiff, Nat.reduceLT, z_l0, z_l1, z_l2, z_l3, z_l4, z_l5, z_l6, z_l7, z_l8, z_l9, z_l10, z_l11, z_l12, z_l13, z_l14, z_l15, z_l16, z_l17, z_l18, z_l19, z_l20, z_l21, z_l22, z_l23, z_l24, z_l25, z_l26, z_l27, z_l28, z_l32, z_l48, z_l56, z_l57, z_l59, z_l63, z_l64, z_l96, z_l97, z_l122, z_l127, z_l152, z_l158, z_l182, z_l255, z_l256, z_l310, z_l342, z_l406, z_l440, z_l729, z_l800, z_l3960, z_l14336, z_l14592, z_l100000, hzo, c1]
        exact nx
      · by_cases c2 : y2 = 2
        · have nx := next (fun z => z.2.1 c2)
          simp (disch := omega) only [z_gt, z_o1, z_o2, z_o3, z_o4, z_o5, z_o6, z_o7, z_o8, z_o9, z_bn, z_jn, nI_add, z_mul, z_sub, z_div, Nat.not_lt_zero, z_cl, z_le, z_lt, z_eq, z_inb, z_nz, z_isB0, z_notJ, z_notI, z_isB1, z_m1, z_pos, z_pos', z_nlt, z_nle', z_m1le, z_m1a, z_nle, z_sI0, z_sI1, z_sI2, z_sI3, z_sJ0, z_sJ1, z_sJ2, z_sJ3, z_sF0, z_sF1, z_sF2, z_sA0, z_sA1, z_sA2, z_sA3, z_sAA, z_sIA, ↓reduceIte, Nat.reduceEqDiff, Nat.reduceLeDiff, Nat.reduceLT, z_l0, z_l1, z_l2, z_l3, z_l4, z_l5, z_l6, z_l7, z_l8, z_l9, z_l10, z_l11, z_l12, z_l13, z_l14, z_l15, z_l16, z_l17, z_l18, z_l19, z_l20, z_l21, z_l22, z_l23, z_l24, z_l25, z_l26, z_l27, z_l28, z_l32, z_l48, z_l56, z_l57, z_l59, z_l63, z_l64, z_l96, z_l97, z_l122, z_l127, z_l152, z_l158, z_l182, z_l255, z_l256, z_l310, z_l342, z_l406, z_l440, z_l729, z_l800, z_l3960, z_l14336, z_l14592, z_l100000, hzo, c1, d1, c2]
          exact nx
        · by_cases c3 : y1 = y2
          · have nx := next (fun z => z.2.2 c3)
            simp (disch := omega) only [z_gt, z_o1, z_o2, z_o3, z_o4, z_o5, z_o6, z_o7, z_o8, z_o9, z_bn, z_jn, nI_add, z_mul, z_sub, z_div, Nat.not_lt_zero, z_cl, z_le, z_lt, z_eq, z_inb, z_nz, z_isB0, z_notJ, z_notI, z_isB1, z_m1, z_pos, z_pos', z_nlt, z_nle', z_m1le, z_m1a, z_nle, z_sI0, z_sI1, z_sI2, z_sI3, z_sJ0, z_sJ1, z_sJ2, z_sJ3, z_sF0, z_sF1, z_sF2, z_sA0, z_sA1, z_sA2, z_sA3, z_sAA, z_sIA, ↓reduceIte, Nat.reduceEqDiff, Nat.reduceLeDiff, Nat.reduceLT, z_l0, z_l1, z_l2, z_l3, z_l4, z_l5, z_l6, z_l7, z_l8, z_l9, z_l10, z_l11, z_l12, z_l13, z_l14, z_l15, z_l16, z_l17, z_l18, z_l19, z_l20, z_l21, z_l22, z_l23, z_l24, z_l25, z_l26, z_l27, z_l28, z_l32, z_l48, z_l56, z_l57, z_l59, z_l63, z_l64, z_l96, z_l97, z_l122, z_l127, z_l152, z_l158, z_l182, z_l255, z_l256, z_l310, z_l342, z_l406, z_l440, z_l729, z_l800, z_l3960, z_l14336, z_l14592, z_l100000, hzo, c1, d1, c2, c3]
            exact nx
          · simp (disch := omega) only [z_gt, z_o1, z_o2, z_o3, z_o4, z_o5, z_o6, z_o7, z_o8, z_o9, z_bn, z_jn, nI_add, z_mul, z_sub, z_div, Nat.not_lt_zero, z_cl, z_le, z_lt, z_eq, z_inb, z_nz, z_isB0, z_notJ, z_notI, z_isB1, z_m1, z_pos, z_pos', z_nlt, z_nle', z_m1le, z_m1a, z_nle, z_sI0, z_sI1, z_sI2, z_sI3, z_sJ0, z_sJ1, z_sJ2, z_sJ3, z_sF0, z_sF1, z_sF2, z_sA0, z_sA1, z_sA2, z_sA3, z_sAA, z_sIA, ↓reduceIte, Nat.reduceEqDiff, Nat.reduceLeDiff, Nat.reduceLT, z_l0, z_l1, z_l2, z_l3, z_l4, z_l5, z_l6, z_l7, z_l8, z_l9, z_l10, z_l11, z_l12, z_l13, z_l14, z_l15, z_l16, z_l17, z_l18, z_l19, z_l20, z_l21, z_l22, z_l23, z_l24, z_l25, z_l26, z_l27, z_l28, z_l32, z_l48, z_l56, z_l57, z_l59, z_l63, z_l64, z_l96, z_l97, z_l122, z_l127, z_l152, z_l158, z_l182, z_l255, z_l256, z_l310, z_l342, z_l406, z_l440, z_l729, z_l800, z_l3960, z_l14336, z_l14592, z_l100000, hzo, c1, d1, c2, c3]
            exact ok_some ⟨hss, Or.inl ⟨rfl, yes ⟨c1, c2, c3⟩⟩⟩
  · rw [iff_ hq (by omega)]
    obtain ⟨d1, d2⟩ := g_atBent hm hw (o := o) (by omega)
    rw [hs.2 8 (by decide), hb _ d2] at d1
    refine ok_o1e d1 ?_
    refine ok_gd (z_inb (by omega) (by omega)) ?_
    refine ok_bn ?_
    rw [z_cl (by omega), z_l1, nI_add, z_sIA]
    refine ih _ _ _ (by omega) ⟨o + 1, rfl, by omega, rfl, hs.sA _ (by decide), fun u hu => ?_⟩
    rw [z_sA2]
    by_cases hu2 : u = o
    · rw [z_u1 _ _ hu2, hu2]
    · rw [z_u2 _ _ hu2]
      exact hz u (by omega)
theorem q_tellsApart {r : Nat → Int32} (hw : WFc r) (ht : WFt r) {vF vC vT vRT vG vB vRF vM : Vs} {n : Nat} (hC : RC r vC) (hT : RT r vT) (hF : FI r vF vRT vG vRF) (hM : MS vM n r) (x1 x2 x3 : Int32) :
    ∃ c x vF' vRT' vG' vB' y vM', f_X7_tellsApart vF vC vT 342 vRT vG vB x1 x2 x3 = some (c, x, vF', vRT', vG', vB') ∧ FI r vF' vRT' vG' vRF ∧ f_X8_tellsApart vM x1 x2 x3 = some (y, vM') ∧ QM vM vM' ∧ ((c = 0 ∧ vM'.1 0 = nI 0 ∧ x = y) ∨ (c = 2 ∧ vM'.1 0 = nI 1)) := by
  have hn := hw.nf
  have h16 := ht.1.2
  have M0 := hM.sF 0 (nI 0) (by decide)
  have t0 : (sF vM 0 (nI 0)).1 0 = nI 0 := z_sF1 _ _ _
  rcases in_or x1 (n := NT r) (by omega) with ⟨t, h1, rfl⟩ | h1
  · rcases in_or x2 (n := NF r) (by omega) with ⟨f, h2, rfl⟩ | h2
    · rcases in_or x3 (n := NF r) (by omega) with ⟨g, h3, rfl⟩ | h3
      · obtain ⟨vF', vRT', vG', vB', e, hF', hTR, -⟩ := y_refreshTest hw ht (vB := vB) hC hT hF
        obtain ⟨v2, e2, s2, a2⟩ := h_asksTest M0 hw ht h1
        obtain ⟨v3, e3, s3, a3⟩ := h_bends (M0.sc s2 (by decide)) hw a2 (p := f + 1) (by omega)
        rw [fI_s] at e3
        obtain ⟨⟨y, v4⟩, e4, s4, h4⟩ := g_tells ((M0.sc s2 (by decide)).sc s3 (by decide)) hw (a2.sc s3 (by decide) (by decide)) (f := f) (g := g) h3 a3
        obtain ⟨ya, ea, hya⟩ := x_apart hw (W := 1) (Or.inl rfl) hC hF'.2.2.1 (fun l i hi => tq_2 ht l i hi) (k := 0) (by omega) hTR.1 (p := f + 1) (q := g + 1) (by omega) (by omega)
        have hya := hya t (by omega)
        rw [tq_t h1] at hya
        rw [fI_s, fI_s] at ea
        have hy : f_X7_hasLane ya (nI t) = some y ∧ (y = nI 0 ∨ y = nI 1) := by
          rcases h4 with ⟨z1, z2⟩ | ⟨z1, z2⟩
          · have z1 : y = nI 1 := z1
            rw [z1]
            exact ⟨x_hl1 (by omega) (hya.mpr z2), Or.inr rfl⟩
          · have z1 : y = nI 0 := z1
            rw [z1]
            refine ⟨x_hl0 (by omega) ?_, Or.inl rfl⟩
            cases hq : bJ ya t with
            | false => rfl
            | true => exact absurd (hya.mp hq) z2
        have hB : isB y = true := by rcases hy.2 with z | z <;> rw [z] <;> rfl
        refine ⟨0, y, vF', vRT', vG', vB', y, v4, ?_, hF', ?_, (((QM.th _ _).tr (QM.sc s2 (by decide) (by decide))).tr (QM.sc s3 (by decide) (by decide))).tr (QM.sc s4 (by decide) (by decide)), Or.inl ⟨rfl, by rw [s4.1, s3.1, s2.1]; exact t0, rfl⟩⟩
        · unfold f_X7_tellsApart
          rw [show (342 : Nat) = 342 * 1 from rfl] at e ⊢
          simp (disch := omega) only [z_gt, z_o1, z_o2, z_o3, z_o4, z_o5, z_o6, z_o7, z_o8, z_o9, z_bn, z_jn, nI_add, z_mul, z_sub, z_div, Nat.not_lt_zero, z_cl, z_le, z_lt, z_eq, z_inb, z_nz, z_isB0, z_notJ, z_notI, z_isB1, z_m1, z_pos, z_pos', z_nlt, z_nle', z_m1le, z_m1a, z_nle, z_sI0, z_sI1, z_sI2, z_sI3, z_sJ0, z_sJ1, z_sJ2, z_sJ3, z_sF0, z_sF1, z_sF2, z_sA0, z_sA1, z_sA2, z_sA3, z_sAA, z_sIA, ↓reduceIte, Nat.reduceEqDiff, Nat.reduceLeDiff, Nat.reduceLT, z_l0, z_l1, z_l2, z_l3, z_l4, z_l5, z_l6, z_l7, z_l8, z_l9, z_l10, z_l11, z_l12, z_l13, z_l14, z_l15, z_l16, z_l17, z_l18, z_l19, z_l20, z_l21, z_l22, z_l23, z_l24, z_l25, z_l26, z_l27, z_l28, z_l32, z_l48, z_l56, z_l57, z_l59, z_l63, z_l64, z_l96, z_l97, z_l122, z_l127, z_l152, z_l158, z_l182, z_l255, z_l256, z_l310, z_l342, z_l406, z_l440, z_l729, z_l800, z_l3960, z_l14336, z_l14592, z_l100000, x_test_y ht hT h1, x_fault_y hw hC h2, x_fault_y hw hC h3, e, ea, hy.1, hB]
        · unfold f_X8_tellsApart
          rw [z_l0] at *
          simp (disch := omega) only [z_gt, z_o1, z_o2, z_o3, z_o4, z_o5, z_o6, z_o7, z_o8, z_o9, z_bn, z_jn, nI_add, z_mul, z_sub, z_div, Nat.not_lt_zero, z_cl, z_le, z_lt, z_eq, z_inb, z_nz, z_isB0, z_notJ, z_notI, z_isB1, z_m1, z_pos, z_pos', z_nlt, z_nle', z_m1le, z_m1a, z_nle, z_sI0, z_sI1, z_sI2, z_sI3, z_sJ0, z_sJ1, z_sJ2, z_sJ3, z_sF0, z_sF1, z_sF2, z_sA0, z_sA1, z_sA2, z_sA3, z_sAA, z_sIA, ↓reduceIte, Nat.reduceEqDiff, Nat.reduceLeDiff, Nat.reduceLT, z_l0, z_l1, z_l2, z_l3, z_l4, z_l5, z_l6, z_l7, z_l8, z_l9, z_l10, z_l11, z_l12, z_l13, z_l14, z_l15, z_l16, z_l17, z_l18, z_l19, z_l20, z_l21, z_l22, z_l23, z_l24, z_l25, z_l26, z_l27, z_l28, z_l32, z_l48, z_l56, z_l57, z_l59, z_l63, z_l64, z_l96, z_l97, z_l122, z_l127, z_l152, z_l158, z_l182, z_l255, z_l256, z_l310, z_l342, z_l406, z_l440, z_l729, z_l800, z_l3960, z_l14336, z_l14592, z_l100000, g_isTest_y M0 ht t0 h1, g_isFault_y M0 hw t0 h2, g_isFault_y M0 hw t0 h3, e2, e3]
          exact e4
      · refine ⟨2, nI 0, vF, vRT, vG, vB, nI 0, thM vM 1, ?_, hF, ?_, QM.tm _ _, Or.inr ⟨rfl, thM_0 _ _⟩⟩
        · unfold f_X7_tellsApart
          simp (disch := omega) only [z_gt, z_o1, z_o2, z_o3, z_o4, z_o5, z_o6, z_o7, z_o8, z_o9, z_bn, z_jn, nI_add, z_mul, z_sub, z_div, Nat.not_lt_zero, z_cl, z_le, z_lt, z_eq, z_inb, z_nz, z_isB0, z_notJ, z_notI, z_isB1, z_m1, z_pos, z_pos', z_nlt, z_nle', z_m1le, z_m1a, z_nle, z_sI0, z_sI1, z_sI2, z_sI3, z_sJ0, z_sJ1, z_sJ2, z_sJ3, z_sF0, z_sF1, z_sF2, z_sA0, z_sA1, z_sA2, z_sA3, z_sAA, z_sIA, ↓reduceIte, Nat.reduceEqDiff, Nat.reduceLeDiff, Nat.reduceLT, z_l0, z_l1, z_l2, z_l3, z_l4, z_l5, z_l6, z_l7, z_l8, z_l9, z_l10, z_l11, z_l12, z_l13, z_l14, z_l15, z_l16, z_l17, z_l18, z_l19, z_l20, z_l21, z_l22, z_l23, z_l24, z_l25, z_l26, z_l27, z_l28, z_l32, z_l48, z_l56, z_l57, z_l59, z_l63, z_l64, z_l96, z_l97, z_l122, z_l127, z_l152, z_l158, z_l182, z_l255, z_l256, z_l310, z_l342, z_l406, z_l440, z_l729, z_l800, z_l3960, z_l14336, z_l14592, z_l100000, x_test_y ht hT h1, x_fault_y hw hC h2, x_fault_n hC h3]
        · unfold f_X8_tellsApart
          simp (disch := omega) only [z_gt, z_o1, z_o2, z_o3, z_o4, z_o5, z_o6, z_o7, z_o8, z_o9, z_bn, z_jn, nI_add, z_mul, z_sub, z_div, Nat.not_lt_zero, z_cl, z_le, z_lt, z_eq, z_inb, z_nz, z_isB0, z_notJ, z_notI, z_isB1, z_m1, z_pos, z_pos', z_nlt, z_nle', z_m1le, z_m1a, z_nle, z_sI0, z_sI1, z_sI2, z_sI3, z_sJ0, z_sJ1, z_sJ2, z_sJ3, z_sF0, z_sF1, z_sF2, z_sA0, z_sA1, z_sA2, z_sA3, z_sAA, z_sIA, ↓reduceIte, Nat.reduceEqDiff, Nat.reduceLeDiff, Nat.reduceLT, z_l0, z_l1, z_l2, z_l3, z_l4, z_l5, z_l6, z_l7, z_l8, z_l9, z_l10, z_l11, z_l12, z_l13, z_l14, z_l15, z_l16, z_l17, z_l18, z_l19, z_l20, z_l21, z_l22, z_l23, z_l24, z_l25, z_l26, z_l27, z_l28, z_l32, z_l48, z_l56, z_l57, z_l59, z_l63, z_l64, z_l96, z_l97, z_l122, z_l127, z_l152, z_l158, z_l182, z_l255, z_l256, z_l310, z_l342, z_l406, z_l440, z_l729, z_l800, z_l3960, z_l14336, z_l14592, z_l100000, g_isTest_y M0 ht t0 h1, g_isFault_y M0 hw t0 h2, g_isFault_n M0 hw t0 h3, thM]
    · refine ⟨2, nI 0, vF, vRT, vG, vB, nI 0, thM vM 1, ?_, hF, ?_, QM.tm _ _, Or.inr ⟨rfl, thM_0 _ _⟩⟩
      · unfold f_X7_tellsApart
        simp (disch := omega) only [z_gt, z_o1, z_o2, z_o3, z_o4, z_o5, z_o6, z_o7, z_o8, z_o9, z_bn, z_jn, nI_add, z_mul, z_sub, z_div, Nat.not_lt_zero, z_cl, z_le, z_lt, z_eq, z_inb, z_nz, z_isB0, z_notJ, z_notI, z_isB1, z_m1, z_pos, z_pos', z_nlt, z_nle', z_m1le, z_m1a, z_nle, z_sI0, z_sI1, z_sI2, z_sI3, z_sJ0, z_sJ1, z_sJ2, z_sJ3, z_sF0, z_sF1, z_sF2, z_sA0, z_sA1, z_sA2, z_sA3, z_sAA, z_sIA, ↓reduceIte, Nat.reduceEqDiff, Nat.reduceLeDiff, Nat.reduceLT, z_l0, z_l1, z_l2, z_l3, z_l4, z_l5, z_l6, z_l7, z_l8, z_l9, z_l10, z_l11, z_l12, z_l13, z_l14, z_l15, z_l16, z_l17, z_l18, z_l19, z_l20, z_l21, z_l22, z_l23, z_l24, z_l25, z_l26, z_l27, z_l28, z_l32, z_l48, z_l56, z_l57, z_l59, z_l63, z_l64, z_l96, z_l97, z_l122, z_l127, z_l152, z_l158, z_l182, z_l255, z_l256, z_l310, z_l342, z_l406, z_l440, z_l729, z_l800, z_l3960, z_l14336, z_l14592, z_l100000, x_test_y ht hT h1, x_fault_n hC h2]
      · unfold f_X8_tellsApart
        simp (disch := omega) only [z_gt, z_o1, z_o2, z_o3, z_o4, z_o5, z_o6, z_o7, z_o8, z_o9, z_bn, z_jn, nI_add, z_mul, z_sub, z_div, Nat.not_lt_zero, z_cl, z_le, z_lt, z_eq, z_inb, z_nz, z_isB0, z_notJ, z_notI, z_isB1, z_m1, z_pos, z_pos', z_nlt, z_nle', z_m1le, z_m1a, z_nle, z_sI0, z_sI1, z_sI2, z_sI3, z_sJ0, z_sJ1, z_sJ2, z_sJ3, z_sF0, z_sF1, z_sF2, z_sA0, z_sA1, z_sA2, z_sA3, z_sAA, z_sIA, ↓reduceIte, Nat.reduceEqDiff, Nat.reduceLeDiff, Nat.reduceLT, z_l0, z_l1, z_l2, z_l3, z_l4, z_l5, z_l6, z_l7, z_l8, z_l9, z_l10, z_l11, z_l12, z_l13, z_l14, z_l15, z_l16, z_l17, z_l18, z_l19, z_l20, z_l21, z_l22, z_l23, z_l24, z_l25, z_l26, z_l27, z_l28, z_l32, z_l48, z_l56, z_l57, z_l59, z_l63, z_l64, z_l96, z_l97, z_l122, z_l127, z_l152, z_l158, z_l182, z_l255, z_l256, z_l310, z_l342, z_l406, z_l440, z_l729, z_l800, z_l3960, z_l14336, z_l14592, z_l100000, g_isTest_y M0 ht t0 h1, g_isFault_n M0 hw t0 h2, thM]
  · refine ⟨2, nI 0, vF, vRT, vG, vB, nI 0, thM vM 1, ?_, hF, ?_, QM.tm _ _, Or.inr ⟨rfl, thM_0 _ _⟩⟩
    · unfold f_X7_tellsApart
      simp (disch := omega) only [z_gt, z_o1, z_o2, z_o3, z_o4, z_o5, z_o6, z_o7, z_o8, z_o9, z_bn, z_jn, nI_add, z_mul, z_sub, z_div, Nat.not_lt_zero, z_cl, z_le, z_lt, z_eq, z_inb, z_nz, z_isB0, z_notJ, z_notI, z_isB1, z_m1, z_pos, z_pos', z_nlt, z_nle', z_m1le, z_m1a, z_nle, z_sI0, z_sI1, z_sI2, z_sI3, z_sJ0, z_sJ1, z_sJ2, z_sJ3, z_sF0, z_sF1, z_sF2, z_sA0, z_sA1, z_sA2, z_sA3, z_sAA, z_sIA, ↓reduceIte, Nat.reduceEqDiff, Nat.reduceLeDiff, Nat.reduceLT, z_l0, z_l1, z_l2, z_l3, z_l4, z_l5, z_l6, z_l7, z_l8, z_l9, z_l10, z_l11, z_l12, z_l13, z_l14, z_l15, z_l16, z_l17, z_l18, z_l19, z_l20, z_l21, z_l22, z_l23, z_l24, z_l25, z_l26, z_l27, z_l28, z_l32, z_l48, z_l56, z_l57, z_l59, z_l63, z_l64, z_l96, z_l97, z_l122, z_l127, z_l152, z_l158, z_l182, z_l255, z_l256, z_l310, z_l342, z_l406, z_l440, z_l729, z_l800, z_l3960, z_l14336, z_l14592, z_l100000, x_test_n hT h1]
    · unfold f_X8_tellsApart
      simp (disch := omega) only [z_gt, z_o1, z_o2, z_o3, z_o4, z_o5, z_o6, z_o7, z_o8, z_o9, z_bn, z_jn, nI_add, z_mul, z_sub, z_div, Nat.not_lt_zero, z_cl, z_le, z_lt, z_eq, z_inb, z_nz, z_isB0, z_notJ, z_notI, z_isB1, z_m1, z_pos, z_pos', z_nlt, z_nle', z_m1le, z_m1a, z_nle, z_sI0, z_sI1, z_sI2, z_sI3, z_sJ0, z_sJ1, z_sJ2, z_sJ3, z_sF0, z_sF1, z_sF2, z_sA0, z_sA1, z_sA2, z_sA3, z_sAA, z_sIA, ↓reduceIte, Nat.reduceEqDiff, Nat.reduceLeDiff, Nat.reduceLT, z_l0, z_l1, z_l2, z_l3, z_l4, z_l5, z_l6, z_l7, z_l8, z_l9, z_l10, z_l11, z_l12, z_l13, z_l14, z_l15, z_l16, z_l17, z_l18, z_l19, z_l20, z_l21, z_l22, z_l23, z_l24, z_l25, z_l26, z_l27, z_l28, z_l32, z_l48, z_l56, z_l57, z_l59, z_l63, z_l64, z_l96, z_l97, z_l122, z_l127, z_l152, z_l158, z_l182, z_l255, z_l256, z_l310, z_l342, z_l406, z_l440, z_l729, z_l800, z_l3960, z_l14336, z_l14592, z_l100000, g_isTest_n M0 ht t0 h1, thM]
theorem y_foundTests {r : Nat → Int32} (hw : WFc r) (ht : WFt r) {vF vC vT vRT vG vB vRF : Vs} (hC : RC r vC) (hT : RT r vT) (hF : FI r vF vRT vG vRF) :
    ∃ all vF' vRT' vG' vB', f_X7_listFoundByTests vF vC vT 342 vRT vG vB = some (all, vF', vRT', vG', vB') ∧ FI r vF' vRT' vG' vRF ∧ TR r vRT' vG' ∧ (∀ t f, t < NT r → f < 64 → bJ (vF'.2.2 9 t) f = (decide (f < NF r) && FD r t f)) ∧ (∀ f, f < 64 → (bJ all f = true ↔ ∃ t, t < NT r ∧ f < NF r ∧ FD r t f = true)) ∧ vF'.2.1 = vF.2.1 ∧ vF'.1 5 = vF.1 5 ∧ vF'.1 6 ≠ 0 ∧ ∀ j, j ≠ 9 → vF'.2.2 j = vF.2.2 j := by
  have h16 := ht.1.2
  obtain ⟨vF1, vRT', vG', vB', e, hF', hTR, k1, k2, k3⟩ := y_refreshTest hw ht (vB := vB) hC hT hF
  obtain ⟨⟨all, vF2⟩, e2, hJ, hb, ha⟩ := x_listFound_t hw (vF := vF1) hC hF'.2.2.1 (ask := tq r) (n := NT r) (by omega) (by omega) (fun N i hi => tq_2 ht N i hi) (fun k hk => by
    have : k = 0 := by omega
    subst this
    have e : (fun l => tq r (64 * 0 + l)) = tq r := by
      funext l
      rw [Nat.mul_zero, Nat.zero_add]
    rw [e]
    exact hTR.1)
  have hb' : ∀ t f, t < NT r → f < 64 → bJ (vF2.2.2 9 t) f = (decide (f < NF r) && FD r t f) := fun t f h1 h2 => by
    have := hb t f h1 h2
    rw [tq_t h1] at this
    exact this
  obtain ⟨j1, j2, j3⟩ := hJ
  refine ⟨all, vF2, vRT', vG', vB', ?_, ⟨fun q => hF'.1 ?_, fun q => hF'.2.1 ?_, hF'.2.2.1, hF'.2.2.2.1, fun j hj => ?_⟩, hTR, hb', fun f hf => ?_, ?_, ?_, ?_, fun j hj => ?_⟩
  · unfold f_X7_listFoundByTests
    rw [hT.1, e, z_o4, e2, z_o2]
  · rw [← show vF2.1 = vF1.1 from j1]; exact q
  · rw [← show vF2.1 = vF1.1 from j1]; exact q
  · rw [show vF2.2.1 = vF1.2.1 from j2]
    exact hF'.2.2.2.2 j hj
  · rw [ha f hf]
    constructor
    · rintro ⟨t, h1, h2⟩
      rw [hb' t f h1 hf] at h2
      simp at h2
      exact ⟨t, h1, h2⟩
    · rintro ⟨t, h1, h2, h3⟩
      exact ⟨t, h1, by rw [hb' t f h1 hf, h3]; simp [h2]⟩
  · rw [show vF2.2.1 = vF1.2.1 from j2, k1]
  · rw [show vF2.1 = vF1.1 from j1]; exact k2
  · rw [show vF2.1 = vF1.1 from j1]; exact k3
  · rw [show vF2.2.2 j = vF1.2.2 j from j3 j hj, k1]
theorem q_worth {r : Nat → Int32} (hw : WFc r) (ht : WFt r) {vF vC vT vRT vG vB vRF vM : Vs} {n : Nat} (hC : RC r vC) (hT : RT r vT) (hF : FI r vF vRT vG vRF) (hM : MS vM n r) (x1 : Int32) :
    ∃ c x vF' vRT' vG' vB' y vM', f_X7_worth vF vC vT 342 vRT vG vB x1 = some (c, x, vF', vRT', vG', vB') ∧ FI r vF' vRT' vG' vRF ∧ f_X8_worth vM x1 = some (y, vM') ∧ QM vM vM' ∧ ((c = 0 ∧ vM'.1 0 = nI 0 ∧ x = y) ∨ (c = 2 ∧ vM'.1 0 = nI 1)) := by
  have hn := hw.nf
  have h16 := ht.1.2
  have M0 := hM.sF 0 (nI 0) (by decide)
  have t0 : (sF vM 0 (nI 0)).1 0 = nI 0 := z_sF1 _ _ _
  rcases in_or x1 (n := NT r) (by omega) with ⟨t, h1, rfl⟩ | h1
  · obtain ⟨all, vF', vRT', vG', vB', e, hF', hTR, hb, -⟩ := y_foundTests hw ht (vB := vB) hC hT hF
    obtain ⟨v2, e2, s2⟩ := h_worthOf M0 hw ht h1
    have hc : cnt (fun k => bJ (vF'.2.2 9 t) k) 64 = cnt (FD r t) (NF r) := by
      rw [cnt_cut (m := NF r) 64 (by omega) (fun k h2 h3 => by rw [hb t k h1 h3]; simp; omega)]
      exact cnt_cong _ (fun k hk => by rw [hb t k h1 (by omega)]; simp [hk])
    have hbc := x_bitCount (vF'.2.2 9 t)
    rw [hc] at hbc
    refine ⟨0, nI (cnt (FD r t) (NF r)), vF', vRT', vG', vB', nI (cnt (FD r t) (NF r)), v2, ?_, hF', ?_, (QM.th _ _).tr (QM.sc s2 (by decide) (by decide)), Or.inl ⟨rfl, by rw [s2.1]; exact t0, rfl⟩⟩
    · unfold f_X7_worth
      simp (disch := omega) only [z_gt, z_o1, z_o2, z_o3, z_o4, z_o5, z_o6, z_o7, z_o8, z_o9, z_bn, z_jn, nI_add, z_mul, z_sub, z_div, Nat.not_lt_zero, z_cl, z_le, z_lt, z_eq, z_inb, z_nz, z_isB0, z_notJ, z_notI, z_isB1, z_m1, z_pos, z_pos', z_nlt, z_nle', z_m1le, z_m1a, z_nle, z_sI0, z_sI1, z_sI2, z_sI3, z_sJ0, z_sJ1, z_sJ2, z_sJ3, z_sF0, z_sF1, z_sF2, z_sA0, z_sA1, z_sA2, z_sA3, z_sAA, z_sIA, ↓reduceIte, Nat.reduceEqDiff, Nat.reduceLeDiff, Nat.reduceLT, z_l0, z_l1, z_l2, z_l3, z_l4, z_l5, z_l6, z_l7, z_l8, z_l9, z_l10, z_l11, z_l12, z_l13, z_l14, z_l15, z_l16, z_l17, z_l18, z_l19, z_l20, z_l21, z_l22, z_l23, z_l24, z_l25, z_l26, z_l27, z_l28, z_l32, z_l48, z_l56, z_l57, z_l59, z_l63, z_l64, z_l96, z_l97, z_l122, z_l127, z_l152, z_l158, z_l182, z_l255, z_l256, z_l310, z_l342, z_l406, z_l440, z_l729, z_l800, z_l3960, z_l14336, z_l14592, z_l100000, x_test_y ht hT h1, e, hbc]
    · unfold f_X8_worth
      simp (disch := omega) only [z_gt, z_o1, z_o2, z_o3, z_o4, z_o5, z_o6, z_o7, z_o8, z_o9, z_bn, z_jn, nI_add, z_mul, z_sub, z_div, Nat.not_lt_zero, z_cl, z_le, z_lt, z_eq, z_inb, z_nz, z_isB0, z_notJ, z_notI, z_isB1, z_m1, z_pos, z_pos', z_nlt, z_nle', z_m1le, z_m1a, z_nle, z_sI0, z_sI1, z_sI2, z_sI3, z_sJ0, z_sJ1, z_sJ2, z_sJ3, z_sF0, z_sF1, z_sF2, z_sA0, z_sA1, z_sA2, z_sA3, z_sAA, z_sIA, ↓reduceIte, Nat.reduceEqDiff, Nat.reduceLeDiff, Nat.reduceLT, z_l0, z_l1, z_l2, z_l3, z_l4, z_l5, z_l6, z_l7, z_l8, z_l9, z_l10, z_l11, z_l12, z_l13, z_l14, z_l15, z_l16, z_l17, z_l18, z_l19, z_l20, z_l21, z_l22, z_l23, z_l24, z_l25, z_l26, z_l27, z_l28, z_l32, z_l48, z_l56, z_l57, z_l59, z_l63, z_l64, z_l96, z_l97, z_l122, z_l127, z_l152, z_l158, z_l182, z_l255, z_l256, z_l310, z_l342, z_l406, z_l440, z_l729, z_l800, z_l3960, z_l14336, z_l14592, z_l100000, g_isTest_y M0 ht t0 h1, e2]
  · refine ⟨2, nI 0, vF, vRT, vG, vB, nI 0, thM vM 1, ?_, hF, ?_, QM.tm _ _, Or.inr ⟨rfl, thM_0 _ _⟩⟩
    · unfold f_X7_worth
      simp (disch := omega) only [z_gt, z_o1, z_o2, z_o3, z_o4, z_o5, z_o6, z_o7, z_o8, z_o9, z_bn, z_jn, nI_add, z_mul, z_sub, z_div, Nat.not_lt_zero, z_cl, z_le, z_lt, z_eq, z_inb, z_nz, z_isB0, z_notJ, z_notI, z_isB1, z_m1, z_pos, z_pos', z_nlt, z_nle', z_m1le, z_m1a, z_nle, z_sI0, z_sI1, z_sI2, z_sI3, z_sJ0, z_sJ1, z_sJ2, z_sJ3, z_sF0, z_sF1, z_sF2, z_sA0, z_sA1, z_sA2, z_sA3, z_sAA, z_sIA, ↓reduceIte, Nat.reduceEqDiff, Nat.reduceLeDiff, Nat.reduceLT, z_l0, z_l1, z_l2, z_l3, z_l4, z_l5, z_l6, z_l7, z_l8, z_l9, z_l10, z_l11, z_l12, z_l13, z_l14, z_l15, z_l16, z_l17, z_l18, z_l19, z_l20, z_l21, z_l22, z_l23, z_l24, z_l25, z_l26, z_l27, z_l28, z_l32, z_l48, z_l56, z_l57, z_l59, z_l63, z_l64, z_l96, z_l97, z_l122, z_l127, z_l152, z_l158, z_l182, z_l255, z_l256, z_l310, z_l342, z_l406, z_l440, z_l729, z_l800, z_l3960, z_l14336, z_l14592, z_l100000, x_test_n hT h1]
    · unfold f_X8_worth
      simp (disch := omega) only [z_gt, z_o1, z_o2, z_o3, z_o4, z_o5, z_o6, z_o7, z_o8, z_o9, z_bn, z_jn, nI_add, z_mul, z_sub, z_div, Nat.not_lt_zero, z_cl, z_le, z_lt, z_eq, z_inb, z_nz, z_isB0, z_notJ, z_notI, z_isB1, z_m1, z_pos, z_pos', z_nlt, z_nle', z_m1le, z_m1a, z_nle, z_sI0, z_sI1, z_sI2, z_sI3, z_sJ0, z_sJ1, z_sJ2, z_sJ3, z_sF0, z_sF1, z_sF2, z_sA0, z_sA1, z_sA2, z_sA3, z_sAA, z_sIA, ↓reduceIte, Nat.reduceEqDiff, Nat.reduceLeDiff, Nat.reduceLT, z_l0, z_l1, z_l2, z_l3, z_l4, z_l5, z_l6, z_l7, z_l8, z_l9, z_l10, z_l11, z_l12, z_l13, z_l14, z_l15, z_l16, z_l17, z_l18, z_l19, z_l20, z_l21, z_l22, z_l23, z_l24, z_l25, z_l26, z_l27, z_l28, z_l32, z_l48, z_l56, z_l57, z_l59, z_l63, z_l64, z_l96, z_l97, z_l122, z_l127, z_l152, z_l158, z_l182, z_l255, z_l256, z_l310, z_l342, z_l406, z_l440, z_l729, z_l800, z_l3960, z_l14336, z_l14592, z_l100000, g_isTest_n M0 ht t0 h1, thM]
