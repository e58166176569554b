/-! levels, uses, outputs: the reference and the class -/
theorem lev_in {r : Nat → Int32} {w : Nat} (h : w < NI r) : lev r w = 0 := by
  unfold lev
  rw [ev_at, levF, if_pos h]
theorem mxf_cong {f g : Nat → Nat} : ∀ n, (∀ k, k < n → f k = g k) → mxf f n = mxf g n
  | 0, _ => rfl
  | n + 1, h => by
    show (if f n ≤ mxf f n then mxf f n else f n) = (if g n ≤ mxf g n then mxf g n else g n)
    rw [mxf_cong n (fun k hk => h k (by omega)), h n (by omega)]
theorem mxf_le {f : Nat → Nat} {m : Nat} : ∀ n, (∀ k, k < n → f k ≤ m) → mxf f n ≤ m
  | 0, _ => Nat.zero_le m
  | n + 1, h => by
    have h1 := mxf_le n (fun k hk => h k (by omega))
    have h2 := h n (by omega)
    show (if f n ≤ mxf f n then mxf f n else f n) ≤ m
    split <;> omega
theorem lev_at {r : Nat → Int32} (hw : WFc r) {w : Nat} (h : ¬ w < NI r) (h2 : w < NW r) : lev r w = mxf (fun k => lev r (op r w k) + 1) (hv r w) := by
  have ho := hw.2.2.2.2.2.2.1
  unfold lev
  rw [ev_at, levF, if_neg h]
  exact mxf_cong _ (fun k hk => by rw [evs_ev _ (ho w k (by omega) h2 hk).2])
theorem lev_le {r : Nat → Int32} (hw : WFc r) : ∀ n w, w < n → w < NW r → lev r w ≤ w
  | 0, w, h, _ => by omega
  | n + 1, w, h, h2 => by
    by_cases h1 : w < NI r
    · rw [lev_in h1]; omega
    · rw [lev_at hw h1 h2]
      exact mxf_le _ (fun k hk => by
        have ho := (hw.2.2.2.2.2.2.1 w k (by omega) h2 hk).2
        have := lev_le hw n (op r w k) (by omega) (by omega)
        omega)
theorem h_levelOf {v : Vs} {n : Nat} {r : Nat → Int32} (h : MS v n r) (hw : WFc r) {w : Nat} (h2 : w < NW r) : ∃ v', f_X8_levelOf v (nI w) = some (nI (lev r w), v') ∧ SC [5] v v' := by
  have hn := hw.nf
  have hni := hw.2.1.2
  have hlw := lev_le hw (w + 1) w (by omega) h2
  have key : Ok (f_X8_levelOf v (nI w)) (fun q => q.1 = nI (lev r w) ∧ SC [5] v q.2) := by
    unfold f_X8_levelOf
    refine ok_o1e (g_inputs h hw) ?_
    refine zl3 (I := fun m x y v' => ∃ u, y = nI u ∧ NI r ≤ u ∧ (u ≤ w + 1 ∨ u = NI r) ∧ m = NW r - u ∧ x = nI (if u ≤ w then 0 else lev r w) ∧ SC [5] v v' ∧ ∀ j, NI r ≤ j → j < u → v'.2.1 5 j = nI (lev r j)) ?_ FU (NW r - NI r) _ _ _ (by unfold FU; omega) ⟨NI r, rfl, by omega, Or.inr rfl, rfl, ?_, SC.rf _ _, fun j _ _ => by omega⟩
    · rintro m x y v' self ⟨u, rfl, hu1, hu2, rfl, rfl, hs, hz⟩ ih
      have hm := h.sc hs (by decide)
      unfold f_X8_levelOf_L7
      by_cases hb : w < u
      · rw [ilt hb (by omega)]
        exact ok_some ⟨by rw [if_neg (by omega)], hs⟩
      · rw [ilf hb (by omega)]
        refine ok_gd (z_inb (by omega) (by omega)) ?_
        refine ok_bn ?_
        rw [z_cl (by omega), z_sIA, z_l0]
        obtain ⟨h24, g1, g2, g3, g4, g5, g6, g7, g8⟩ := hw.gate hu1 (by omega)
        refine zl2 (I := fun m x v2 => ∃ k, x = nI k ∧ k ≤ hv r u ∧ m = hv r u - k ∧ SC [5] v v2 ∧ (∀ j, NI r ≤ j → j < u → v2.2.1 5 j = nI (lev r j)) ∧ v2.2.1 5 u = nI (mxf (fun k => lev r (op r u k) + 1) k)) ?_ FU (hv r u) _ _ (by unfold FU; omega) ⟨0, rfl, by omega, by omega, hs.sA _ (by decide), fun j hj1 hj2 => ?_, ?_⟩
        · rintro m x v2 self2 ⟨k, rfl, hk1, rfl, hs2, hz2, hy2⟩ ih2
          have hm2 := h.sc hs2 (by decide)
          unfold f_X8_levelOf_L22
          refine ok_o1e ((g_have hm2 h24).trans (congrArg some g3)) ?_
          by_cases hb2 : hv r u ≤ k
          · rw [ift hb2 (by omega)]
            have e : k = hv r u := by omega
            subst e
            rw [← lev_at hw (by omega) (by omega)] at hy2
            refine ok_j1 (fun t => t = nI (if u + 1 ≤ w then 0 else lev r w)) ?_ ?_
            · rintro t rfl
              rw [z_l1, nI_add]
              refine ih _ _ _ _ (by omega) ⟨u + 1, rfl, by omega, Or.inl (by omega), rfl, rfl, hs2, fun j hj1 hj2 => ?_⟩
              by_cases hj3 : j = u
              · rw [hj3]; exact hy2
              · exact hz2 j hj1 (by omega)
            · intro k9 hk9
              by_cases hu : u = w
              · rw [iet hu]
                refine ok_gd (z_inb (by omega) (by omega)) ?_
                refine hk9 _ ?_
                rw [z_cl (by omega), hy2, if_neg (by omega), hu]
              · rw [ief hu (by omega) (by omega)]
                refine hk9 _ ?_
                rw [if_pos (by omega), if_pos (by omega)]
          · rw [iff_ hb2 (by omega)]
            obtain ⟨a1, a2⟩ := g8 k (by omega)
            have go := (g_operand hm2 h24 (k := k) (by omega)).trans (congrArg some a1)
            refine ok_o1e go ?_
            refine ok_o1e (g_inputs hm2 hw) ?_
            have hlo := lev_le hw (op r u k + 1) (op r u k) (by omega) (by omega)
            refine ok_j1 (fun t => t = nI (lev r (op r u k))) ?_ ?_
            · rintro t rfl
              refine ok_gd (z_inb (by omega) (by omega)) ?_
              have hml : mxf (fun k => lev r (op r u k) + 1) k ≤ u := mxf_le _ (fun k' hk' => by
                have ho := (g8 k' (by omega)).2
                have := lev_le hw (op r u k' + 1) (op r u k') (by omega) (by omega)
                omega)
              rw [z_cl (by omega), hy2, z_l1, nI_add, nI_add]
              refine ok_j1 (fun t => t = nI (mxf (fun k => lev r (op r u k) + 1) (k + 1))) ?_ ?_
              · rintro t rfl
                refine ok_gd (z_inb (by omega) (by omega)) ?_
                refine ok_bn ?_
                rw [z_sIA]
                refine ih2 _ _ _ (by omega) ⟨k + 1, rfl, by omega, rfl, hs2.sA _ (by decide), fun j hj1 hj2 => ?_, ?_⟩
                · rw [z_sA2, z_u2 _ _ (by omega)]
                  exact hz2 j hj1 hj2
                · rw [z_sA2, z_u1 _ _ rfl]
              · intro k9 hk9
                have em : mxf (fun k => lev r (op r u k) + 1) (k + 1) = if lev r (op r u k) + 1 ≤ mxf (fun k => lev r (op r u k) + 1) k then mxf (fun k => lev r (op r u k) + 1) k else lev r (op r u k) + 1 := rfl
                by_cases hq : lev r (op r u k) + 1 ≤ mxf (fun k => lev r (op r u k) + 1) k
                · rw [ift hq (by omega)]
                  refine ok_gd (z_inb (by omega) (by omega)) ?_
                  refine hk9 _ ?_
                  rw [em, if_pos hq]
                · rw [iff_ hq (by omega)]
                  refine hk9 _ ?_
                  rw [em, if_neg hq]
            · intro k9 hk9
              by_cases hq : NI r ≤ op r u k
              · rw [ift hq (by omega)]
                refine ok_o1e go ?_
                refine ok_gd (z_inb (by omega) (by omega)) ?_
                refine hk9 _ ?_
                rw [z_cl (by omega)]
                exact hz2 _ hq a2
              · rw [iff_ hq (by omega)]
                refine hk9 _ ?_
                rw [lev_in (by omega)]
                rfl
        · rw [z_sA2, z_u2 _ _ (by omega)]
          exact hz j hj1 hj2
        · rw [z_sA2, z_u1 _ _ rfl]
          rfl
    · by_cases q : NI r ≤ w
      · rw [if_pos q]
        rfl
      · rw [if_neg q, lev_in (by omega)]
        rfl
  obtain ⟨⟨x, v'⟩, e, rfl, hs⟩ := key
  exact ⟨v', e, hs⟩
def gmax (r : Nat → Int32) : Nat := mxf (lev r) (NW r)
theorem gmaxN_le {r : Nat → Int32} (hw : WFc r) {n : Nat} (h : n ≤ NW r) : mxf (lev r) n ≤ 24 := mxf_le _ (fun k hk => by
  have := lev_le hw (k + 1) k (by omega) (by omega)
  have := hw.nf
  omega)
theorem h_told8 {v : Vs} {n : Nat} {r : Nat → Int32} (h : MS v n r) (hw : WFc r) : Ok (lp f_X8_told_L91 (fun _ _ _ => none) FU (nI 0) (nI 0) v) (fun q => q.1 = nI (gmax r) ∧ SC [5] v q.2) := by
  have hn := hw.nf
  refine zl3 (I := fun m x y v' => ∃ w, x = nI (mxf (lev r) w) ∧ y = nI w ∧ w ≤ NW r ∧ m = NW r - w ∧ SC [5] v v') ?_ FU (NW r) _ _ _ (by unfold FU; omega) ⟨0, rfl, rfl, by omega, by omega, SC.rf _ _⟩
  rintro m x y v' self ⟨w, rfl, rfl, hle, rfl, hs⟩ ih
  have hm := h.sc hs (by decide)
  unfold f_X8_told_L91
  refine ok_o1e (g_wires hm hw) ?_
  by_cases hb : NW r ≤ w
  · rw [ift hb (by omega)]
    have e : w = NW r := by omega
    subst e
    exact ok_some ⟨rfl, hs⟩
  · rw [iff_ hb (by omega)]
    obtain ⟨v1, e1, s1⟩ := h_levelOf hm hw (w := w) (by omega)
    refine ok_o2e e1 ?_
    have l1 := lev_le hw (w + 1) w (by omega) (by omega)
    have l2 := gmaxN_le hw (n := w) (by omega)
    have em : mxf (lev r) (w + 1) = if lev r w ≤ mxf (lev r) w then mxf (lev r) w else lev r w := rfl
    refine ok_j2 (fun t v2 => t = nI (mxf (lev r) (w + 1)) ∧ SC [5] v v2) ?_ ?_
    · rintro t v2 ⟨rfl, hs2⟩
      rw [z_l1, nI_add]
      exact ih _ _ _ _ (by omega) ⟨w + 1, rfl, rfl, by omega, rfl, hs2⟩
    · intro k hk
      by_cases hq : lev r w ≤ mxf (lev r) w
      · rw [ift hq (by omega)]
        exact hk _ _ ⟨by rw [em, if_pos hq], hs.tr s1⟩
      · rw [iff_ hq (by omega)]
        obtain ⟨v2, e2, s2⟩ := h_levelOf (hm.sc s1 (by decide)) hw (w := w) (by omega)
        refine ok_o2e e2 ?_
        exact hk _ _ ⟨by rw [em, if_neg hq], (hs.tr s1).tr s2⟩
theorem x_greatest {r : Nat → Int32} (hw : WFc r) {vC : Vs} (hC : RC r vC) : f_X0_greatestLevel vC = some (nI (gmax r)) := by
  have hn := hw.nf
  refine ok_get ?_
  unfold f_X0_greatestLevel
  refine zl2 (I := fun m x y => ∃ w, x = nI (mxf (lev r) w) ∧ y = nI w ∧ w ≤ NW r ∧ m = NW r - w) ?_ FU (NW r) _ _ (by unfold FU; omega) ⟨0, rfl, rfl, by omega, by omega⟩
  rintro m x y self ⟨w, rfl, rfl, hle, rfl⟩ ih
  unfold f_X0_greatestLevel_L4
  rw [hC.1.2.1]
  by_cases hb : NW r ≤ w
  · rw [ift hb (by omega)]
    have e : w = NW r := by omega
    subst e
    exact ok_some rfl
  · rw [iff_ hb (by omega)]
    have l1 := lev_le hw (w + 1) w (by omega) (by omega)
    have l2 := gmaxN_le hw (n := w) (by omega)
    have em : mxf (lev r) (w + 1) = if lev r w ≤ mxf (lev r) w then mxf (lev r) w else lev r w := rfl
    refine ok_gd (z_inb (by omega) (by omega)) ?_
    refine ok_bn ?_
    rw [z_cl (by omega), (hC.2.2.2.1 w (by omega)).1, z_l1, nI_add]
    by_cases hq : lev r w ≤ mxf (lev r) w
    · rw [ilf (by omega) (by omega)]
      exact ih _ _ _ (by omega) ⟨w + 1, by rw [em, if_pos hq], rfl, by omega, rfl⟩
    · rw [ilt (by omega) (by omega)]
      exact ih _ _ _ (by omega) ⟨w + 1, by rw [em, if_neg hq], rfl, by omega, rfl⟩
theorem opc_le (r : Nat → Int32) (w g : Nat) : ∀ n, opc r w g n ≤ n
  | 0 => Nat.le_refl 0
  | n + 1 => by
    have := opc_le r w g n
    show opc r w g n + _ ≤ _
    split <;> omega
theorem useN_le {r : Nat → Int32} (hw : WFc r) (w : Nat) : ∀ n, n ≤ NW r → useN r w n ≤ 4 * n
  | 0, _ => Nat.le_refl 0
  | n + 1, h => by
    have h1 := useN_le hw w n (by omega)
    show useN r w n + _ ≤ _
    split
    · omega
    · have h2 := opc_le r w n (hv r n)
      have h3 := (hw.gate (w := n) (by omega) (by omega)).2.2.2.2.2.2.2.1
      omega
theorem useN_in {r : Nat → Int32} {w : Nat} : ∀ n, n ≤ NI r → useN r w n = 0
  | 0, _ => rfl
  | n + 1, h => by
    show useN r w n + _ = 0
    rw [useN_in n (by omega), if_pos (by omega)]
theorem h_usesOf {v : Vs} {n : Nat} {r : Nat → Int32} (h : MS v n r) (hw : WFc r) {w : Nat} (h2 : w < NW r) : f_X8_usesOf v (nI w) = some (nI (useN r w (NW r))) := by
  have hn := hw.nf
  have hni := hw.2.1.2
  refine ok_get ?_
  unfold f_X8_usesOf
  refine ok_o1e (g_inputs h hw) ?_
  refine zl2 (I := fun m x y => ∃ g, x = nI (useN r w g) ∧ y = nI g ∧ NI r ≤ g ∧ g ≤ NW r ∧ m = NW r - g) ?_ FU (NW r - NI r) _ _ (by unfold FU; omega) ⟨NI r, by rw [useN_in _ (Nat.le_refl _)]; rfl, rfl, by omega, by omega, rfl⟩
  rintro m x y self ⟨g, rfl, rfl, h1, hle, rfl⟩ ih
  unfold f_X8_usesOf_L7
  refine ok_o1e (g_wires h hw) ?_
  have hu := useN_le hw w g hle
  by_cases hb : NW r ≤ g
  · rw [ift hb (by omega)]
    have e : g = NW r := by omega
    subst e
    exact ok_some rfl
  · rw [iff_ hb (by omega)]
    obtain ⟨h24, g1, g2, g3, g4, g5, g6, g7, g8⟩ := hw.gate h1 (by omega)
    refine zl2 (I := fun m x y => ∃ k, x = nI (useN r w g + opc r w g k) ∧ y = nI k ∧ k ≤ hv r g ∧ m = hv r g - k) ?_ FU (hv r g) _ _ (by unfold FU; omega) ⟨0, rfl, rfl, by omega, by omega⟩
    rintro m x y self2 ⟨k, rfl, rfl, hk, rfl⟩ ih2
    unfold f_X8_usesOf_L18
    refine ok_o1e ((g_have h h24).trans (congrArg some g3)) ?_
    by_cases hb2 : hv r g ≤ k
    · rw [ift hb2 (by omega), z_l1, nI_add]
      have e : k = hv r g := by omega
      subst e
      refine ih _ _ _ (by omega) ⟨g + 1, ?_, rfl, by omega, by omega, rfl⟩
      show _ = nI (useN r w g + (if g < NI r then 0 else opc r w g (hv r g)))
      rw [if_neg (by omega)]
    · rw [iff_ hb2 (by omega)]
      obtain ⟨a1, a2⟩ := g8 k (by omega)
      refine ok_o1e ((g_operand h h24 (k := k) (by omega)).trans (congrArg some a1)) ?_
      have hc := opc_le r w g k
      have eo : opc r w g (k + 1) = opc r w g k + (if op r g k = w then 1 else 0) := rfl
      by_cases hq : op r g k = w
      · have ih2' := ih2 (hv r g - (k + 1)) (nI (useN r w g + opc r w g k + 1)) (nI (k + 1)) (by omega) ⟨k + 1, by rw [eo, if_pos hq]; rfl, rfl, by omega, rfl⟩
        simp (disch := omega) only [z_gt, z_o1, z_o2, z_o3, z_o4, z_o5, z_o6, z_o7, z_o8, z_o9, z_bn, z_jn, nI_add, z_mul, z_sub, z_div, Nat.not_lt_zero, z_cl, z_le, z_lt, z_eq, z_inb, z_nz, z_isB0, z_notJ, z_notI, z_isB1, z_m1, z_pos, z_pos', z_nlt, z_nle', z_m1le, z_m1a, z_nle, z_sI0, z_sI1, z_sI2, z_sI3, z_sJ0, z_sJ1, z_sJ2, z_sJ3, z_sF0, z_sF1, z_sF2, z_sA0, z_sA1, z_sA2, z_sA3, z_sAA, z_sIA, ↓reduceIte, Nat.reduceEqDiff, Nat.reduceLeDiff, Nat.reduceLT, z_l0, z_l1, z_l2, z_l3, z_l4, z_l5, z_l6, z_l7, z_l8, z_l9, z_l10, z_l11, z_l12, z_l13, z_l14, z_l15, z_l16, z_l17, z_l18, z_l19, z_l20, z_l21, z_l22, z_l23, z_l24, z_l25, z_l26, z_l27, z_l28, z_l32, z_l48, z_l56, z_l57, z_l59, z_l63, z_l64, z_l96, z_l97, z_l122, z_l127, z_l152, z_l158, z_l182, z_l255, z_l256, z_l310, z_l342, z_l406, z_l440, z_l729, z_l800, z_l3960, z_l14336, z_l14592, z_l100000, hq]
        exact ih2'
      · have ih2' := ih2 (hv r g - (k + 1)) (nI (useN r w g + opc r w g k + 0)) (nI (k + 1)) (by omega) ⟨k + 1, by rw [eo, if_neg hq]; rfl, rfl, by omega, rfl⟩
        simp (disch := omega) only [z_gt, z_o1, z_o2, z_o3, z_o4, z_o5, z_o6, z_o7, z_o8, z_o9, z_bn, z_jn, nI_add, z_mul, z_sub, z_div, Nat.not_lt_zero, z_cl, z_le, z_lt, z_eq, z_inb, z_nz, z_isB0, z_notJ, z_notI, z_isB1, z_m1, z_pos, z_pos', z_nlt, z_nle', z_m1le, z_m1a, z_nle, z_sI0, z_sI1, z_sI2, z_sI3, z_sJ0, z_sJ1, z_sJ2, z_sJ3, z_sF0, z_sF1, z_sF2, z_sA0, z_sA1, z_sA2, z_sA3, z_sAA, z_sIA, ↓reduceIte, Nat.reduceEqDiff, Nat.reduceLeDiff, Nat.reduceLT, z_l0, z_l1, z_l2, z_l3, z_l4, z_l5, z_l6, z_l7, z_l8, z_l9, z_l10, z_l11, z_l12, z_l13, z_l14, z_l15, z_l16, z_l17, z_l18, z_l19, z_l20, z_l21, z_l22, z_l23, z_l24, z_l25, z_l26, z_l27, z_l28, z_l32, z_l48, z_l56, z_l57, z_l59, z_l63, z_l64, z_l96, z_l97, z_l122, z_l127, z_l152, z_l158, z_l182, z_l255, z_l256, z_l310, z_l342, z_l406, z_l440, z_l729, z_l800, z_l3960, z_l14336, z_l14592, z_l100000, hq]
        exact ih2'
def outI (r : Nat → Int32) (w : Nat) : Int32 := fstI (fun o => decide (ou r o = w)) (NO r)
theorem h_outputOf {v : Vs} {n : Nat} {r : Nat → Int32} (h : MS v n r) (hw : WFc r) {w : Nat} (h2 : w < NW r) : f_X8_outputOf v (nI w) = some (outI r w) := by
  have hn := hw.nf
  refine ok_get ?_
  unfold f_X8_outputOf
  refine zl1 (I := fun m x => ∃ o, x = nI o ∧ o ≤ NO r ∧ m = NO r - o ∧ ∀ u, u < o → decide (ou r u = w) = false) ?_ FU (NO r) _ (by unfold FU; omega) ⟨0, rfl, by omega, by omega, fun u hu => by omega⟩
  rintro m x self ⟨o, rfl, hle, rfl, hz⟩ ih
  unfold f_X8_outputOf_L2
  refine ok_o1e (g_outputs h hw) ?_
  by_cases hb : NO r ≤ o
  · rw [ift hb (by omega)]
    refine ok_some ?_
    unfold outI
    rw [fstI_no (fun u hu => hz u (by omega))]
    rfl
  · rw [iff_ hb (by omega), z_l152, nI_add]
    obtain ⟨a1, a2⟩ := hw.2.2.2.2.2.2.2.1 o (by omega)
    refine ok_o1e ((g_get h (by omega)).trans (congrArg some a1)) ?_
    by_cases hq : ou r o = w
    · rw [iet hq]
      refine ok_some ?_
      unfold outI
      rw [fstI_yes (k := o) (by omega) (by simp [hq]) hz]
    · rw [ief hq (by omega) (by omega), z_l1, nI_add]
      refine ih _ _ (by omega) ⟨o + 1, rfl, by omega, rfl, fun u hu => ?_⟩
      by_cases hu2 : u = o
      · rw [hu2]; simp [hq]
      · exact hz u (by omega)
theorem x_outputOf {r : Nat → Int32} (hw : WFc r) {vC : Vs} (hC : RC r vC) {w : Nat} (h2 : w < NW r) : f_X0_outputOf vC (nI w) = some (outI r w) := by
  have hn := hw.nf
  refine ok_get ?_
  unfold f_X0_outputOf
  refine zl1 (I := fun m x => ∃ o, x = nI o ∧ o ≤ NO r ∧ m = NO r - o ∧ ∀ u, u < o → decide (ou r u = w) = false) ?_ FU (NO r) _ (by unfold FU; omega) ⟨0, rfl, by omega, by omega, fun u hu => by omega⟩
  rintro m x self ⟨o, rfl, hle, rfl, hz⟩ ih
  unfold f_X0_outputOf_L2
  rw [hC.1.2.2.1]
  by_cases hb : NO r ≤ o
  · rw [ift hb (by omega)]
    refine ok_some ?_
    unfold outI
    rw [fstI_no (fun u hu => hz u (by omega))]
    rfl
  · rw [iff_ hb (by omega)]
    obtain ⟨a1, a2⟩ := hw.2.2.2.2.2.2.2.1 o (by omega)
    refine ok_gd (z_inb (by omega) (by omega)) ?_
    rw [z_cl (by omega), hC.2.2.2.2.1 o (by omega), a1]
    by_cases hq : ou r o = w
    · rw [iet hq]
      refine ok_some ?_
      unfold outI
      rw [fstI_yes (k := o) (by omega) (by simp [hq]) hz]
    · rw [ief hq (by omega) (by omega), z_l1, nI_add]
      refine ih _ _ (by omega) ⟨o + 1, rfl, by omega, rfl, fun u hu => ?_⟩
      by_cases hu2 : u = o
      · rw [hu2]; simp [hq]
      · exact hz u (by omega)
