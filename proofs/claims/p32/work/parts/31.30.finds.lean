/-! the model: what finds, what is apart -/
theorem m_finds {r : Nat → Int32} (hw : WFc r) {vA vM vK vP vQ : Vs} (hm : RM r vM vK vP vQ) {ask : Nat → Nat} (hA : AQ r ask vA) {f : Nat} (hf : f < NF r) : f_X8_finds vA vM vK vP vQ (nI f) = some (nI (FNo r ask f)) := by
  have h0 := m_values hw hm hA (p := 0) (by omega)
  have h1 := m_values hw hm hA (p := f + 1) (by omega)
  have hg2 : ∀ j, j < NW r → good r ask j ≤ 2 := fun j hj => good_2 hw (fun i hi => (hA.2 i hi).2) (j + 1) j (by omega) hj
  have hb2 : ∀ j, j < NW r → bad r ask (f + 1) j ≤ 2 := fun j hj => bad_2 hw (fun i hi => (hA.2 i hi).2) (f + 1) (j + 1) j (by omega) hj
  obtain ⟨-, -, -, ⟨hO, hP9, hPo⟩, -, hI2, hI3, hW3, hW6⟩ := id hm
  have hou := hw.2.2.2.2.2.2.2.1
  refine ok_get ?_
  unfold f_X8_finds
  refine ok_gd (by decide) (ok_o1 h0 (fun vN3 h3 => ok_gd (by decide) (ok_o1 h1 (fun vN10 h10 => ?_))))
  have h3 : SVr r ask 0 (NW r) vN3 := h3
  have h10 : SVr r ask (f + 1) (NW r) vN10 := h10
  rw [SVr, bad_0] at h3
  refine zl2 (I := fun m x y => ∃ o, y = nI o ∧ x = nI (foundN (good r ask) (bad r ask (f + 1)) r o) ∧ o ≤ 3 ∧ m = 3 - o) ?_ FU 3 _ _ (by unfold FU; omega) ⟨0, rfl, rfl, by omega, by omega⟩
  rintro m x y self ⟨o, rfl, rfl, hle, rfl⟩ ih
  have hb := foundN_2 (good r ask) (bad r ask (f + 1)) r o
  unfold f_X8_finds_L32
  rw [hP9, z_cl (by omega)]
  by_cases hb3 : 3 ≤ o
  · rw [ift hb3 (by omega)]
    obtain rfl : o = 3 := by omega
    refine ok_gd (by decide) (ok_some ?_)
    show nI _ = nI (foundN _ _ r (NO r))
    rw [hO]
  · rw [iff_ hb3 (by omega), z_cl (by omega), hPo o (by omega)]
    have hw1 := (hou o (by omega)).2
    rw [z_cl (by omega), h3.1, h10.1, z_cl (by omega), h3.2 _ hw1, h10.2 _ hw1]
    have g2 := hg2 _ hw1
    have b2 := hb2 _ hw1
    have s1 := sv_3 g2
    have s2 := sv_3 b2
    have e1 := sv_is3 g2
    have e2 := sv_is3 b2
    have e3 := sv_inj g2 b2
    have ef : foundN (good r ask) (bad r ask (f + 1)) r (o + 1) = fnd (good r ask (ou r o)) (bad r ask (f + 1) (ou r o)) (foundN (good r ask) (bad r ask (f + 1)) r o) := rfl
    have ih' := ih (3 - (o + 1)) (nI (foundN (good r ask) (bad r ask (f + 1)) r (o + 1))) (nI (o + 1)) (by omega) ⟨o + 1, rfl, rfl, by omega, rfl⟩
    rw [ef] at ih'
    unfold fnd at ih'
    refine ok_gd (z_inb (by omega) (by omega)) (ok_gd (z_inb (by omega) (by omega)) ?_)
    rw [z_jn, z_l3, z_l1, nI_add]
    generalize foundN (good r ask) (bad r ask (f + 1)) r o = B at hb ih' ⊢
    generalize good r ask (ou r o) = a at g2 s1 e1 e3 ih' ⊢
    generalize bad r ask (f + 1) (ou r o) = b at b2 s2 e2 e3 ih' ⊢
    by_cases q1 : a = 2
    · rw [iet (e1.mpr q1)]
      rw [if_pos q1] at ih'
      exact ih'
    · rw [ief (fun z => q1 (e1.mp z)) (by omega) (by omega)]
      rw [if_neg q1] at ih'
      refine ok_gd (z_inb (by omega) (by omega)) (ok_gd (z_inb (by omega) (by omega)) ?_)
      by_cases q2 : a = b
      · rw [iet (e3.mpr q2)]
        rw [if_pos q2] at ih'
        exact ih'
      · rw [ief (fun z => q2 (e3.mp z)) (by omega) (by omega)]
        rw [if_neg q2] at ih'
        refine ok_gd (z_inb (by omega) (by omega)) ?_
        rw [z_jn]
        by_cases q3 : b = 2
        · rw [iet (e2.mpr q3)]
          rw [if_pos q3] at ih'
          refine ok_gd (by decide) ?_
          by_cases q4 : B = 0
          · rw [ilt (by omega) (by omega)]
            rw [if_pos q4] at ih'
            exact ih'
          · rw [ilf (by omega) (by omega)]
            rw [if_neg q4] at ih'
            exact ih'
        · rw [ief (fun z => q3 (e2.mp z)) (by omega) (by omega)]
          rw [if_neg q3] at ih'
          refine ok_gd (by decide) ?_
          rw [z_l2]
          by_cases q4 : B < 2
          · rw [ilt q4 (by omega)]
            exact ih'
          · rw [ilf q4 (by omega), show B = 2 by omega]
            exact ih'
theorem m_full {r : Nat → Int32} {vM vK vP vQ : Vs} (hm : RM r vM vK vP vQ) {N : Nat} (hN : N < 256) : Ok (f_X8_full vM vK vP vQ (nI N)) (AQ r (fq N)) := by
  obtain ⟨⟨hM0, hM1⟩, -, -, -, -, hI2, hI3, hW3, hW6⟩ := id hm
  unfold f_X8_full
  rw [hM0]
  refine ok_gd (decide_eq_true ⟨nI_pos (by omega), by rw [z_cl (by omega)]; omega, by omega, by rw [z_cl (by omega)]; omega⟩) (ok_bn ?_)
  refine zl2 (I := fun m x v => ∃ i, x = nI i ∧ i ≤ NI r ∧ v.1 9 = nI (NI r) ∧ (∀ j, j < i → v.2.1 0 j = nI (sv (fq N j))) ∧ m = NI r - i) ?_ FU (NI r) _ _ (by unfold FU; omega) ⟨0, rfl, by omega, rfl, fun j hj => by omega, by omega⟩
  rintro m x v self ⟨i, rfl, hle, h9, hv, rfl⟩ ih
  unfold f_X8_full_L9
  rw [hM0]
  by_cases hb : NI r ≤ i
  · rw [ift hb (by omega)]
    obtain rfl : i = NI r := by omega
    refine ok_gd (decide_eq_true ⟨by omega, by rw [z_cl (by omega)]; omega⟩) (ok_some ⟨h9, fun j hj => ⟨hv j hj, ?_⟩⟩)
    have := fq_1 N j
    omega
  · rw [iff_ hb (by omega), h9]
    refine ok_gd (z_inb (by rw [z_cl (by omega)]; omega) (by rw [z_cl (by omega)]; omega)) (ok_bn ?_)
    have e1 : ((nI N >>> (nI i &&& 31)) &&& (1 : Int32)) = nI (fq N i) := g_fq N hN i (by omega)
    have e2 := sh_01 (fq N i) (by have := fq_1 N i; omega)
    rw [e1, e2, z_l1, nI_add]
    refine ih _ _ _ (by omega) ⟨i + 1, rfl, by omega, h9, fun j hj => ?_, rfl⟩
    rw [z_sI2, z_cl (by omega)]
    rcases Nat.lt_or_ge j i with q | q
    · rw [z_u2 _ _ (by omega)]
      exact hv j q
    · have : j = i := by omega
      rw [this, z_u1 _ _ rfl]
/-- some full test tells p from q -/
def AP (r : Nat → Int32) (p q : Nat) : Bool := decide (fst (DF r p q) (2 ^ NI r) < 2 ^ NI r)
theorem vals_DF {r : Nat → Int32} (hw : WFc r) {p q : Nat} (hp : p ≤ NF r) (hq : q ≤ NF r) (N : Nat) : (∃ o, o < NO r ∧ bad r (fq N) p (ou r o) ≠ bad r (fq N) q (ou r o)) ↔ DF r p q N = true := by
  rw [← apart_DF hw hp hq N]
  have h1 : ∀ u, u ≤ NF r → ∀ o, o < NO r → bad r (fq N) u (ou r o) ≤ 1 := fun u hu o ho => bad_1 hw (fun i _ => fq_1 N i) hu (ou r o + 1) _ (by omega) (hw.2.2.2.2.2.2.2.1 o ho).2
  constructor
  · rintro ⟨o, ho, hne⟩
    have a1 := h1 p hp o ho
    have a2 := h1 q hq o ho
    exact ⟨o, ho, by omega, by omega, hne⟩
  · rintro ⟨o, ho, -, -, hne⟩
    exact ⟨o, ho, hne⟩
theorem m_isApart {r : Nat → Int32} (hw : WFc r) {vM vK vP vQ : Vs} (hm : RM r vM vK vP vQ) {p q : Nat} (hp : p ≤ NF r) (hq : q ≤ NF r) : f_X8_isApart vM vK vP vQ (fI p) (fI q) = some (nI (if AP r p q then 1 else 0)) := by
  obtain ⟨⟨hM0, hM1⟩, -, -, ⟨hO, hP9, hPo⟩, -, hI2, hI3, hW3, hW6⟩ := id hm
  have hou := hw.2.2.2.2.2.2.2.1
  have hI : NI r = 2 ∨ NI r = 3 := by omega
  have e2 : 2 ^ NI r ≤ 8 := by rcases hI with e | e <;> rw [e] <;> decide
  have es : ((1 : Int32) <<< (nI (NI r) &&& 31)) = nI (2 ^ NI r) := by rcases hI with e | e <;> rw [e] <;> decide
  refine ok_get ?_
  unfold f_X8_isApart
  refine zl3 (I := fun m x kc ks => ∃ N, x = nI N ∧ N ≤ 2 ^ NI r ∧ (∀ j, j < N → DF r p q j = false) ∧ kc ≤ 42 * N ∧ ks ≤ 272 * N ∧ m = 2 ^ NI r - N) ?_ FU (2 ^ NI r) _ _ _ (by unfold FU; omega) ⟨0, rfl, Nat.zero_le _, fun j hj => absurd hj (Nat.not_lt_zero _), by omega, by omega, (Nat.sub_zero _).symm⟩
  rintro m x kc ks self ⟨N, rfl, hle, hno, hkc, hks, rfl⟩ ih
  unfold f_X8_isApart_L2
  rw [hM0, es]
  by_cases hb : 2 ^ NI r ≤ N
  · rw [ift hb (by omega)]
    have ea : AP r p q = false := by
      unfold AP
      rw [fst_no _ (fun k hk => hno k (by omega))]
      simp
    rw [ea]
    exact ok_gd (by decide) (ok_gd (decide_eq_true ⟨by omega, by omega⟩) (ok_some rfl))
  · rw [iff_ hb (by omega)]
    refine ok_gd (decide_eq_true ⟨by omega, by omega⟩) (ok_o1 (m_full hm (N := N) (by omega)) (fun v1 hv1 => ok_gd (decide_eq_true ⟨by omega, by omega⟩) (ok_o1 (m_values hw hm hv1 hp) (fun va ha => ok_gd (decide_eq_true ⟨by omega, by omega⟩) (ok_o1 (m_full hm (N := N) (by omega)) (fun v2 hv2 => ok_gd (decide_eq_true ⟨by omega, by omega⟩) (ok_o1 (m_values hw hm hv2 hq) (fun vb hvb => ?_))))))))
    have ha : SVr r (fq N) p (NW r) va := ha
    have hvb : SVr r (fq N) q (NW r) vb := hvb
    refine zl1 (I := fun m x => ∃ o, x = nI o ∧ o ≤ 3 ∧ (∀ j, j < o → bad r (fq N) p (ou r j) = bad r (fq N) q (ou r j)) ∧ m = 3 - o) ?_ FU 3 _ (by unfold FU; omega) ⟨0, rfl, by omega, fun j hj => by omega, by omega⟩
    rintro m x self2 ⟨o, rfl, hle3, heq, rfl⟩ ih2
    unfold f_X8_isApart_L50
    rw [hP9, z_cl (by omega)]
    by_cases hb3 : 3 ≤ o
    · rw [ift hb3 (by omega), z_l1, nI_add]
      refine ih _ _ _ _ (by omega) ⟨N + 1, rfl, by omega, fun j hj => ?_, by omega, by omega, rfl⟩
      rcases Nat.lt_or_ge j N with z | z
      · exact hno j z
      · obtain rfl : j = N := by omega
        cases hd : DF r p q j with
        | false => rfl
        | true =>
          obtain ⟨o', ho', hne⟩ := (vals_DF hw hp hq j).mpr hd
          exact absurd (heq o' (by omega)) hne
    · have hw1 := (hou o (by omega)).2
      rw [iff_ hb3 (by omega), z_cl (by omega), hPo o (by omega), z_cl (by omega), ha.1, hvb.1, z_cl (by omega), ha.2 _ hw1, hvb.2 _ hw1]
      have p2 := bad_1 hw (fun i _ => fq_1 N i) hp (ou r o + 1) _ (by omega) hw1
      have q2 := bad_1 hw (fun i _ => fq_1 N i) hq (ou r o + 1) _ (by omega) hw1
      have s1 := sv_3 (show bad r (fq N) p (ou r o) ≤ 2 by omega)
      have s2 := sv_3 (show bad r (fq N) q (ou r o) ≤ 2 by omega)
      have e3 := sv_inj (show bad r (fq N) p (ou r o) ≤ 2 by omega) (show bad r (fq N) q (ou r o) ≤ 2 by omega)
      refine ok_gd (z_inb (by omega) (by omega)) (ok_gd (z_inb (by omega) (by omega)) (ok_gd (z_inb (by omega) (by omega)) ?_))
      by_cases qe : bad r (fq N) p (ou r o) = bad r (fq N) q (ou r o)
      · rw [iet (e3.mpr qe), z_l1, nI_add]
        refine ih2 _ _ (by omega) ⟨o + 1, rfl, by omega, fun j hj => ?_, rfl⟩
        rcases Nat.lt_or_ge j o with z | z
        · exact heq j z
        · obtain rfl : j = o := by omega
          exact qe
      · rw [ief (fun z => qe (e3.mp z)) (by omega) (by omega)]
        have hd : DF r p q N = true := (vals_DF hw hp hq N).mp ⟨o, by omega, qe⟩
        have ea : AP r p q = true := by
          unfold AP
          rw [fst_yes _ N (by omega) hd hno]
          exact decide_eq_true (by omega)
        rw [ea]
        exact ok_gd (by decide) (ok_gd (decide_eq_true ⟨by omega, by omega⟩) (ok_some rfl))
