/-! checksum of the reference -/
theorem z_mono5 {v v' : Vs} (h : SC [5] v v') : SC [5, 6, 7, 8, 9, 21] v v' := h.mono (by decide)
theorem h_checksum {v : Vs} {n : Nat} {r : Nat → Int32} (h : MS v n r) (hw : WFc r) (ht : WFt r) : ∃ v', f_X8_checksum v = some (csum r, v') ∧ QM v v' := by
  have hn := hw.nf
  have h16 := ht.1.2
  have M0 := h.sF 0 (nI 0) (by decide)
  have key : Ok (f_X8_checksum v) (fun q => q.1 = csum r ∧ SC [5, 6, 7, 8, 9, 21] (sF v 0 (nI 0)) q.2) := by
    unfold f_X8_checksum
    refine ok_bn ?_
    refine zl3 (I := fun m x y v' => ∃ k, x = jf 0 (stV r) k ∧ y = nI k ∧ k ≤ 9 ∧ m = 9 - k ∧ SC [5, 6, 7, 8, 9, 21] (sF v 0 (nI 0)) v') ?_ FU 9 _ _ _ (by unfold FU; omega) ⟨0, rfl, rfl, by omega, by omega, SC.rf _ _⟩
    rintro m x y v' self ⟨k, rfl, rfl, hle, rfl, hs⟩ ih
    have hm := M0.sc hs (by decide)
    unfold f_X8_checksum_L9
    rw [z_l9]
    by_cases hb : ¬ 9 ≤ k
    · rw [iff_ hb (by omega)]
      obtain ⟨v2, e2, s2⟩ := h_toldAt hm hw ht (k := k) (by omega)
      refine ok_o2e e2 ?_
      refine ok_o1e (g_joins _ _) ?_
      rw [z_p1]
      exact ih _ _ _ _ (by omega) ⟨k + 1, rfl, rfl, by omega, rfl, hs.tr (s2.mono (by decide))⟩
    rw [ift (by omega) (by omega)]
    have : k = 9 := by omega
    subst this
    clear ih
    -- the wires
    refine zl3 (I := fun m x y v' => ∃ w, x = wf r (jf 0 (stV r) 9) w ∧ y = nI w ∧ w ≤ NW r ∧ m = NW r - w ∧ SC [5, 6, 7, 8, 9, 21] (sF v 0 (nI 0)) v') ?_ FU (NW r) _ _ _ (by unfold FU; omega) ⟨0, rfl, rfl, by omega, by omega, hs⟩
    rintro m x y v' selfW ⟨w, rfl, rfl, hle, rfl, hs⟩ ihW
    have hm := M0.sc hs (by decide)
    unfold f_X8_checksum_L34
    refine ok_o1e (g_wires hm hw) ?_
    by_cases hb : ¬ NW r ≤ w
    · rw [iff_ hb (by omega)]
      have hw24 : w < 24 := by omega
      refine zl3 (I := fun m x y v' => ∃ k, x = jf (wf r (jf 0 (stV r) 9) w) (wV r w) k ∧ y = nI k ∧ k ≤ 5 ∧ m = 5 - k ∧ SC [5, 6, 7, 8, 9, 21] (sF v 0 (nI 0)) v') ?_ FU 5 _ _ _ (by unfold FU; omega) ⟨0, rfl, rfl, by omega, by omega, hs⟩
      rintro m x y v' self2 ⟨k, rfl, rfl, hle2, rfl, hs⟩ ih2
      have hm := M0.sc hs (by decide)
      unfold f_X8_checksum_L45
      rw [z_l5]
      by_cases hb2 : 5 ≤ k
      · rw [ift hb2 (by omega)]
        have : k = 5 := by omega
        subst this
        obtain ⟨hh1, hh2, hh3⟩ := hv_all hw (w := w) (by omega)
        refine zl2 (I := fun m x y => ∃ k, x = jf (jf (wf r (jf 0 (stV r) 9) w) (wV r w) 5) (fun k => r (56 + 4 * w + k)) k ∧ y = nI k ∧ k ≤ hv r w ∧ m = hv r w - k) ?_ FU (hv r w) _ _ (by unfold FU; omega) ⟨0, rfl, rfl, by omega, by omega⟩
        rintro m x y self3 ⟨k, rfl, rfl, hle3, rfl⟩ ih3
        unfold f_X8_checksum_L73
        have gH := g_have hm hw24
        rw [hh1] at gH
        refine ok_o1e gH ?_
        by_cases hb3 : hv r w ≤ k
        · rw [ift hb3 (by omega), z_p1]
          have : k = hv r w := by omega
          subst this
          exact ihW _ _ _ _ (by omega) ⟨w + 1, rfl, rfl, by omega, rfl, hs⟩
        · rw [iff_ hb3 (by omega)]
          refine ok_o1e (g_operand hm hw24 (k := k) (by omega)) ?_
          refine ok_o1e (g_joins _ _) ?_
          rw [z_p1]
          exact ih3 _ _ _ (by omega) ⟨k + 1, rfl, rfl, by omega, rfl⟩
      · rw [iff_ hb2 (by omega)]
        obtain ⟨v2, e2, s2⟩ := h_wireAt hm hw (w := w) (k := k) (by omega) (by omega)
        refine ok_o2e e2 ?_
        refine ok_o1e (g_joins _ _) ?_
        rw [z_p1]
        exact ih2 _ _ _ _ (by omega) ⟨k + 1, rfl, rfl, by omega, rfl, hs.tr (z_mono5 s2)⟩
    rw [ift (by omega) (by omega)]
    have : w = NW r := by omega
    subst this
    clear ihW
    -- the tests
    refine zl3 (I := fun m x y v' => ∃ t, x = tf r (wf r (jf 0 (stV r) 9) (NW r)) t ∧ y = nI t ∧ t ≤ NT r ∧ m = NT r - t ∧ SC [5, 6, 7, 8, 9, 21] (sF v 0 (nI 0)) v') ?_ FU (NT r) _ _ _ (by unfold FU; omega) ⟨0, rfl, rfl, by omega, by omega, hs⟩
    rintro m x y v' selfT ⟨t, rfl, rfl, hle, rfl, hs⟩ ihT
    have hm := M0.sc hs (by decide)
    unfold f_X8_checksum_L110
    refine ok_o1e (g_tests hm ht) ?_
    by_cases hb : NT r ≤ t
    · rw [ift hb (by omega)]
      have : t = NT r := by omega
      subst this
      obtain ⟨v2, e2, s2, -⟩ := h_fitting hm hw ht
      refine ok_o2e e2 ?_
      refine ok_o1e (g_joins _ _) ?_
      exact ok_some ⟨rfl, hs.tr (s2.mono (by decide))⟩
    rw [iff_ hb (by omega)]
    have h1 : t < NT r := by omega
    obtain ⟨v2, e2, s2, a2⟩ := h_asksTest hm hw ht h1
    refine ok_o1e e2 ?_
    have hs2 := hs.tr (s2.mono (l' := [5, 6, 7, 8, 9, 21]) (by decide))
    have hm2 := M0.sc hs2 (by decide)
    refine zl2 (I := fun m x y => ∃ w, x = jf (tf r (wf r (jf 0 (stV r) 9) (NW r)) t) (fun w => nI (good r (tv r t) w)) w ∧ y = nI w ∧ w ≤ NW r ∧ m = NW r - w) ?_ FU (NW r) _ _ (by unfold FU; omega) ⟨0, rfl, rfl, by omega, by omega⟩
    rintro m x y self2 ⟨w, rfl, rfl, hle2, rfl⟩ ih2
    unfold f_X8_checksum_L126
    refine ok_o1e (g_wires hm2 hw) ?_
    by_cases hb2 : NW r ≤ w
    · rw [ift hb2 (by omega)]
      have : w = NW r := by omega
      subst this
      refine zl2 (I := fun m x y => ∃ o, x = jf (jf (tf r (wf r (jf 0 (stV r) 9) (NW r)) t) (fun w => nI (good r (tv r t) w)) (NW r)) (fun o => nI (sn r t o)) o ∧ y = nI o ∧ o ≤ NO r ∧ m = NO r - o) ?_ FU (NO r) _ _ (by unfold FU; omega) ⟨0, rfl, rfl, by omega, by omega⟩
      rintro m x y self3 ⟨o, rfl, rfl, hle3, rfl⟩ ih3
      unfold f_X8_checksum_L157
      refine ok_o1e (g_outputs hm2 hw) ?_
      by_cases hb3 : NO r ≤ o
      · rw [ift hb3 (by omega)]
        have : o = NO r := by omega
        subst this
        obtain ⟨v3, e3, s3⟩ := h_worthOf hm2 hw ht h1
        refine ok_o2e e3 ?_
        refine ok_o1e (g_joins _ _) ?_
        rw [z_p1]
        exact ihT _ _ _ _ (by omega) ⟨t + 1, rfl, rfl, by omega, rfl, hs2.tr (s3.mono (by decide))⟩
      · rw [iff_ hb3 (by omega)]
        refine ok_o1e (g_seenAt hm2 ht h1 (by omega)) ?_
        refine ok_o1e (g_joins _ _) ?_
        rw [z_p1]
        exact ih3 _ _ _ (by omega) ⟨o + 1, rfl, rfl, by omega, rfl⟩
    · rw [iff_ hb2 (by omega)]
      refine ok_gd (z_inb (by omega) (by omega)) ?_
      rw [z_cl (by omega), a2.2 w (by omega)]
      refine ok_o1e (g_joins _ _) ?_
      rw [z_p1]
      exact ih2 _ _ _ (by omega) ⟨w + 1, rfl, rfl, by omega, rfl⟩
  obtain ⟨⟨x, v'⟩, e, hx, hs⟩ := key
  have hx : x = csum r := hx
  subst hx
  exact ⟨v', e, (QM.th _ _).tr (QM.sc hs (by decide) (by decide))⟩
theorem q_checksum {r : Nat → Int32} (hw : WFc r) (ht : WFt r) {vF vC vT vRT vG vB vRF vM : Vs} {n : Nat} (hC : RC r vC) (hT : RT r vT) (hF : FI r vF vRT vG vRF) (hM : MS vM n r) :
    ∃ x vF' vRT' vG' vB' vM', f_X7_checksum vF vC vT 342 vRT vG vB = some (0, x, vF', vRT', vG', vB') ∧ FI r vF' vRT' vG' vRF ∧ f_X8_checksum vM = some (x, vM') ∧ QM vM vM' := by
  obtain ⟨a, b, c, d, e, h⟩ := x_checksum hw ht (vB := vB) hC hT hF
  obtain ⟨v', e2, q⟩ := h_checksum hM hw ht
  exact ⟨_, a, b, c, d, v', e, h, e2, q⟩
