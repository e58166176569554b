/-! the class: all gates; a fault -/
theorem x_runGates {r : Nat → Int32} (hw : WFc r) {vC vL : Vs} (hC : RC r vC) {ask : Nat → Nat → Nat} (ha : ∀ l i, i < NI r → ask l i ≤ 2) (hL : ∀ w, w < NI r → LW vL w (fun l => ask l w)) : Ok (f_X2_runGates vL vC) (fun v' => v'.1 = vL.1 ∧ v'.2.1 = vL.2.1 ∧ ∀ w, w < NW r → LW v' w (fun l => good r (ask l) w)) := by
  have hn := hw.nf
  have hni := hw.2.1.2
  unfold f_X2_runGates
  rw [hC.1.1]
  refine zl2 (I := fun m x v' => ∃ w, x = nI w ∧ NI r ≤ w ∧ w ≤ NW r ∧ m = NW r - w ∧ v'.1 = vL.1 ∧ v'.2.1 = vL.2.1 ∧ ∀ j, j < w → LW v' j (fun l => good r (ask l) j)) ?_ FU (NW r - NI r) _ _ (by unfold FU; omega) ⟨NI r, rfl, by omega, by omega, rfl, rfl, rfl, fun j hj => (hL j hj).cong (fun l _ => (good_in hj).symm)⟩
  rintro m x v' self ⟨w, rfl, h1, hle, rfl, f1, f2, hf⟩ ih
  unfold f_X2_runGates_L5
  rw [hC.1.2.1]
  by_cases hb : NW r ≤ w
  · rw [ift hb (by omega)]
    exact ok_some ⟨f1, f2, fun j hj => hf j (by omega)⟩
  · rw [iff_ hb (by omega)]
    obtain ⟨z, o, e, hN⟩ := x_runGate hw hC h1 (by omega) (vL := v') (c := fun l => good r (ask l)) (fun k hk => by
      have hop := (hw.2.2.2.2.2.2.1 w k h1 (by omega) hk).2
      exact ⟨hf _ hop, fun l => good_2 hw (fun i hi => ha l i hi) (op r w k + 1) _ (by omega) (by omega)⟩)
    refine ok_o1e e ?_
    rw [z_l1, nI_add]
    refine ih _ _ _ (by omega) ⟨w + 1, rfl, by omega, by omega, rfl, f1, f2, fun j hj => ?_⟩
    by_cases hj2 : j = w
    · subst hj2
      refine (LW.set hN).cong (fun l _ => ?_)
      rw [good_at hw (by omega) (by omega)]
    · exact (hf j (by omega)).keep hj2
/-- the wires at a fault -/
def site (r : Nat → Int32) (p w : Nat) : Bool := if p = 0 then false else if p - 1 < 2 * NW r then decide ((p - 1) / 2 = w) else decide (w = ba r (p - 1 - 2 * NW r) ∨ w = bb r (p - 1 - 2 * NW r))
theorem site_told {r : Nat → Int32} {ask : Nat → Nat} {p w : Nat} : told r ask p w = none ↔ site r p w = false := by
  unfold told site
  by_cases h0 : p = 0
  · simp [h0]
  · rw [if_neg h0, if_neg h0]
    by_cases h1 : p - 1 < 2 * NW r
    · rw [if_pos h1, if_pos h1]
      by_cases h2 : (p - 1) / 2 = w <;> simp [h2]
    · rw [if_neg h1, if_neg h1]
      by_cases h2 : w = ba r (p - 1 - 2 * NW r) ∨ w = bb r (p - 1 - 2 * NW r)
      · rw [if_pos h2]
        simp [h2]
      · rw [if_neg h2]
        simp only [true_iff, decide_eq_false_iff_not]
        exact h2
theorem NJ.all (b : Bool) : NJ (~~~(if b then (-1 : Int64) else 0)) (if b then (-1 : Int64) else 0) (fun _ => if b then 1 else 0) := by
  intro i hi
  have e : bJ (-1 : Int64) i = true := by
    show ((-1 : Int64).toBitVec).getLsbD i = true
    have : (-1 : Int64).toBitVec = BitVec.allOnes 64 := by decide
    rw [this, BitVec.getLsbD_allOnes]
    simp [hi]
  rw [bJ_not _ hi]
  cases b
  · simp [bJ_0]
  · simp [e]
theorem odd_1 (q : Nat) : (nI q &&& nI 1 = nI 0) = (q % 2 = 0) := by
  rw [and1_0, bI_nI]
  apply propext
  simp [Nat.testBit_zero]
theorem sh1 {q : Nat} (h : q < 256) : nI q >>> (nI 1 &&& 31) = nI (q / 2) := by
  have : ∀ q, q < 256 → nI q >>> (nI 1 &&& 31) = nI (q / 2) := by decide +kernel
  exact this q h
theorem x_setSites {r : Nat → Int32} (hw : WFc r) {vC vL vG : Vs} (hC : RC r vC) {ask : Nat → Nat → Nat} (ha : ∀ l i, i < NI r → ask l i ≤ 2) (hG : ∀ w, w < NW r → LW vG w (fun l => good r (ask l) w)) {f : Nat} (hf : f < NF r) : Ok (f_X2_setSites vL vC vG (nI f)) (fun q => (∀ j, j < 32 → bI q.1 j = (site r (f + 1) j && decide (j < NW r))) ∧ q.2.1 = vL.1 ∧ q.2.2.1 = vL.2.1 ∧ ∀ w, w < NW r → site r (f + 1) w = true → LW q.2 w (fun l => bad r (ask l) (f + 1) w)) := by
  have hn := hw.nf
  obtain ⟨⟨c0, c1, c2, c3⟩, -, -, -, -, cb⟩ := hC
  unfold f_X2_setSites
  rw [c1, z_l2, z_mul]
  have e9 : f + 1 - 1 = f := by omega
  by_cases h2 : f < 2 * NW r
  · have e : ¬ ((0 : Int32) ≤ nI f - nI (2 * NW r)) := by
      intro q
      rw [Int32.le_iff_toInt_le, Int32.toInt_sub, nI_toInt (by omega), nI_toInt (by omega)] at q
      have e0 : (0 : Int32).toInt = 0 := rfl
      rw [e0, Int.bmod_eq_of_le (by omega) (by omega)] at q
      omega
    rw [if_neg e]
    have hs : ∀ j, site r (f + 1) j = decide (f / 2 = j) := fun j => by
      unfold site
      rw [if_neg (by omega), e9, if_pos h2]
    have hb : ∀ l, bad r (ask l) (f + 1) (f / 2) = f % 2 := fun l => bad_some (by
      unfold told
      rw [if_neg (by omega), e9, if_pos h2, if_pos rfl])
    have hfin : ∀ v' : Vs, (∃ z o, v' = sJ (sJ vL 1 (f / 2) o) 0 (f / 2) z ∧ NJ z o (fun _ => f % 2)) → Ok (some (nI 1 <<< (nI (f / 2) &&& 31), v')) (fun q => (∀ j, j < 32 → bI q.1 j = (site r (f + 1) j && decide (j < NW r))) ∧ q.2.1 = vL.1 ∧ q.2.2.1 = vL.2.1 ∧ ∀ w, w < NW r → site r (f + 1) w = true → LW q.2 w (fun l => bad r (ask l) (f + 1) w)) := by
      rintro v' ⟨z, o, rfl, hN⟩
      refine ok_some ⟨fun j hj => ?_, rfl, rfl, fun w hw2 hsw => ?_⟩
      · show bI (nI 1 <<< (nI (f / 2) &&& 31)) j = _
        rw [bI_shl1 (by omega), hs]
        by_cases hj2 : j = f / 2
        · have : j < NW r := by omega
          simp [hj2]
          omega
        · simp [hj2]
          omega
      · rw [hs] at hsw
        have hsw : f / 2 = w := by simpa using hsw
        subst hsw
        intro i hi
        show bJ ((sJ (sJ vL 1 (f / 2) o) 0 (f / 2) z).2.2 0 (f / 2)) i = _ ∧ bJ ((sJ (sJ vL 1 (f / 2) o) 0 (f / 2) z).2.2 1 (f / 2)) i = _
        rw [z_sJ2, z_v1 _ _ rfl, z_sJ3 _ _ _ _ (by decide), z_sJ2, z_v1 _ _ rfl]
        have := hN i hi
        show bJ z i = decide (bad r (ask i) (f + 1) (f / 2) = 0) ∧ bJ o i = decide (bad r (ask i) (f + 1) (f / 2) = 1)
        rw [hb]
        exact this
    have s1 := sh1 (q := f) (by omega)
    by_cases ho : f % 2 = 0
    · have e1 : nI f &&& nI 1 = nI 0 := by rw [odd_1]; exact ho
      have hN := NJ.all false
      rw [if_neg (by decide)] at hN
      simp (disch := omega) only [z_gt, z_o1, z_o2, z_o3, z_o4, z_o5, z_o6, z_o7, z_o8, z_o9, z_bn, z_jn, nI_add, z_mul, z_sub, z_div, Nat.not_lt_zero, z_cl, z_le, z_lt, z_eq, z_inb, z_nz, z_isB0, z_notJ, z_notI, z_isB1, z_m1, z_pos, z_pos', z_nlt, z_nle', z_m1le, z_m1a, z_nle, z_sI0, z_sI1, z_sI2, z_sI3, z_sJ0, z_sJ1, z_sJ2, z_sJ3, z_sF0, z_sF1, z_sF2, z_sA0, z_sA1, z_sA2, z_sA3, z_sAA, z_sIA, ↓reduceIte, Nat.reduceEqDiff, Nat.reduceLeDiff, Nat.reduceLT, z_l0, z_l1, z_l2, z_l3, z_l4, z_l5, z_l6, z_l7, z_l8, z_l9, z_l10, z_l11, z_l12, z_l13, z_l14, z_l15, z_l16, z_l17, z_l18, z_l19, z_l20, z_l21, z_l22, z_l23, z_l24, z_l25, z_l26, z_l27, z_l28, z_l32, z_l48, z_l56, z_l57, z_l59, z_l63, z_l64, z_l96, z_l97, z_l122, z_l127, z_l152, z_l158, z_l182, z_l255, z_l256, z_l310, z_l342, z_l406, z_l440, z_l729, z_l800, z_l3960, z_l14336, z_l14592, z_l100000, s1, e1, z_v1]
      refine hfin _ ⟨_, _, rfl, ?_⟩
      rw [ho]
      exact hN
    · have e1 : ¬ (nI f &&& nI 1 = nI 0) := by rw [odd_1]; exact ho
      have hN := NJ.all true
      rw [if_pos rfl] at hN
      simp (disch := omega) only [z_gt, z_o1, z_o2, z_o3, z_o4, z_o5, z_o6, z_o7, z_o8, z_o9, z_bn, z_jn, nI_add, z_mul, z_sub, z_div, Nat.not_lt_zero, z_cl, z_le, z_lt, z_eq, z_inb, z_nz, z_isB0, z_notJ, z_notI, z_isB1, z_m1, z_pos, z_pos', z_nlt, z_nle', z_m1le, z_m1a, z_nle, z_sI0, z_sI1, z_sI2, z_sI3, z_sJ0, z_sJ1, z_sJ2, z_sJ3, z_sF0, z_sF1, z_sF2, z_sA0, z_sA1, z_sA2, z_sA3, z_sAA, z_sIA, ↓reduceIte, Nat.reduceEqDiff, Nat.reduceLeDiff, Nat.reduceLT, z_l0, z_l1, z_l2, z_l3, z_l4, z_l5, z_l6, z_l7, z_l8, z_l9, z_l10, z_l11, z_l12, z_l13, z_l14, z_l15, z_l16, z_l17, z_l18, z_l19, z_l20, z_l21, z_l22, z_l23, z_l24, z_l25, z_l26, z_l27, z_l28, z_l32, z_l48, z_l56, z_l57, z_l59, z_l63, z_l64, z_l96, z_l97, z_l122, z_l127, z_l152, z_l158, z_l182, z_l255, z_l256, z_l310, z_l342, z_l406, z_l440, z_l729, z_l800, z_l3960, z_l14336, z_l14592, z_l100000, s1, e1, z_v1]
      refine hfin _ ⟨_, _, rfl, ?_⟩
      have : f % 2 = 1 := by omega
      rw [this]
      exact hN
  · have hb8 : f - 2 * NW r < NB r := by omega
    obtain ⟨⟨k1, k2⟩, ⟨a1, a2⟩, b1, b2⟩ := hw.2.2.2.2.2.2.2.2 (f - 2 * NW r) hb8
    obtain ⟨m1, m2, m3⟩ := cb (f - 2 * NW r) hb8
    rw [k1] at m1
    rw [a1] at m2
    rw [b1] at m3
    rw [z_sub (by omega)]
    have ga := hG _ a2
    have gb := hG _ b2
    have hs : ∀ j, site r (f + 1) j = decide (j = ba r (f - 2 * NW r) ∨ j = bb r (f - 2 * NW r)) := fun j => by
      unfold site
      rw [if_neg (by omega), e9, if_neg h2]
    have ga2 : ∀ i, good r (ask i) (ba r (f - 2 * NW r)) ≤ 2 := fun i => good_2 hw (ha i) (ba r (f - 2 * NW r) + 1) _ (by omega) a2
    have gb2 : ∀ i, good r (ask i) (bb r (f - 2 * NW r)) ≤ 2 := fun i => good_2 hw (ha i) (bb r (f - 2 * NW r) + 1) _ (by omega) b2
    have hbd : ∀ l w, w = ba r (f - 2 * NW r) ∨ w = bb r (f - 2 * NW r) → bad r (ask l) (f + 1) w = dc (good r (ask l) (ba r (f - 2 * NW r))) (good r (ask l) (bb r (f - 2 * NW r))) (if bk r (f - 2 * NW r) = 0 then 0 else 1) := fun l w hsw => bad_some (by
      unfold told
      rw [if_neg (by omega), e9, if_neg h2, if_pos hsw])
    obtain ⟨st0, st1, -⟩ := NJ.step (z := vG.2.2 0 (ba r (f - 2 * NW r))) (o := vG.2.2 1 (ba r (f - 2 * NW r))) ga gb ga2 (fun i _ => gb2 i)
    generalize ba r (f - 2 * NW r) = A at *
    generalize bb r (f - 2 * NW r) = B at *
    have fin : ∀ z o : Int64, NJ z o (fun l => bad r (ask l) (f + 1) A) → ∀ v' : Vs, v'.1 = vL.1 → v'.2.1 = vL.2.1 → v'.2.2 0 A = z → v'.2.2 1 A = o → v'.2.2 0 B = z → v'.2.2 1 B = o → Ok (some ((nI 1 <<< (nI A &&& 31)) ||| (nI 1 <<< (nI B &&& 31)), v')) (fun q => (∀ j, j < 32 → bI q.1 j = (site r (f + 1) j && decide (j < NW r))) ∧ q.2.1 = vL.1 ∧ q.2.2.1 = vL.2.1 ∧ ∀ w, w < NW r → site r (f + 1) w = true → LW q.2 w (fun l => bad r (ask l) (f + 1) w)) := by
      intro z o hN v' v1 v2 q1 q2 q3 q4
      refine ok_some ⟨fun j hj => ?_, v1, v2, fun w hw2 hsw => ?_⟩
      · show bI ((nI 1 <<< (nI A &&& 31)) ||| (nI 1 <<< (nI B &&& 31))) j = _
        rw [bI_or, bI_shl1 (by omega), bI_shl1 (by omega), hs]
        by_cases j1 : j = A
        · have : j < NW r := by omega
          simp [j1, a2]
        · by_cases j2 : j = B
          · have : j < NW r := by omega
            simp [j2, b2]
          · simp [j1, j2]
      · rw [hs] at hsw
        have hsw : w = A ∨ w = B := by simpa using hsw
        intro i hi
        have hi2 : bJ z i = decide (bad r (ask i) (f + 1) A = 0) ∧ bJ o i = decide (bad r (ask i) (f + 1) A = 1) := hN i hi
        show bJ (v'.2.2 0 w) i = decide (bad r (ask i) (f + 1) w = 0) ∧ bJ (v'.2.2 1 w) i = decide (bad r (ask i) (f + 1) w = 1)
        rw [hbd i w hsw]
        rw [hbd i A (Or.inl rfl)] at hi2
        rcases hsw with rfl | rfl
        · rw [q1, q2]; exact hi2
        · rw [q3, q4]; exact hi2
    have z0 : (nI 0 ≤ nI (f - 2 * NW r)) := nI_le (by omega) (by omega)
    by_cases hk : bk r (f - 2 * NW r) = 0
    · rw [hk] at m1
      simp (disch := omega) only [z_gt, z_o1, z_o2, z_o3, z_o4, z_o5, z_o6, z_o7, z_o8, z_o9, z_bn, z_jn, nI_add, z_mul, z_sub, z_div, Nat.not_lt_zero, z_cl, z_le, z_lt, z_eq, z_inb, z_nz, z_isB0, z_notJ, z_notI, z_isB1, z_m1, z_pos, z_pos', z_nlt, z_nle', z_m1le, z_m1a, z_nle, z_sI0, z_sI1, z_sI2, z_sI3, z_sJ0, z_sJ1, z_sJ2, z_sJ3, z_sF0, z_sF1, z_sF2, z_sA0, z_sA1, z_sA2, z_sA3, z_sAA, z_sIA, ↓reduceIte, Nat.reduceEqDiff, Nat.reduceLeDiff, Nat.reduceLT, z_l0, z_l1, z_l2, z_l3, z_l4, z_l5, z_l6, z_l7, z_l8, z_l9, z_l10, z_l11, z_l12, z_l13, z_l14, z_l15, z_l16, z_l17, z_l18, z_l19, z_l20, z_l21, z_l22, z_l23, z_l24, z_l25, z_l26, z_l27, z_l28, z_l32, z_l48, z_l56, z_l57, z_l59, z_l63, z_l64, z_l96, z_l97, z_l122, z_l127, z_l152, z_l158, z_l182, z_l255, z_l256, z_l310, z_l342, z_l406, z_l440, z_l729, z_l800, z_l3960, z_l14336, z_l14592, z_l100000, m1, m2, m3]
      have e : (fun l => bad r (ask l) (f + 1) A) = fun l => dc (good r (ask l) A) (good r (ask l) B) 0 := by
        funext l
        rw [hbd l A (Or.inl rfl), if_pos hk]
      refine fin (vG.2.2 0 A ||| vG.2.2 0 B) (vG.2.2 1 A &&& vG.2.2 1 B) (by rw [e]; exact st0) _ rfl rfl ?_ ?_ ?_ ?_
      all_goals
        by_cases hAB : A = B
        · subst hAB
          simp (disch := omega) only [z_gt, z_o1, z_o2, z_o3, z_o4, z_o5, z_o6, z_o7, z_o8, z_o9, z_bn, z_jn, nI_add, z_mul, z_sub, z_div, Nat.not_lt_zero, z_cl, z_le, z_lt, z_eq, z_inb, z_nz, z_isB0, z_notJ, z_notI, z_isB1, z_m1, z_pos, z_pos', z_nlt, z_nle', z_m1le, z_m1a, z_nle, z_sI0, z_sI1, z_sI2, z_sI3, z_sJ0, z_sJ1, z_sJ2, z_sJ3, z_sF0, z_sF1, z_sF2, z_sA0, z_sA1, z_sA2, z_sA3, z_sAA, z_sIA, ↓reduceIte, Nat.reduceEqDiff, Nat.reduceLeDiff, Nat.reduceLT, z_l0, z_l1, z_l2, z_l3, z_l4, z_l5, z_l6, z_l7, z_l8, z_l9, z_l10, z_l11, z_l12, z_l13, z_l14, z_l15, z_l16, z_l17, z_l18, z_l19, z_l20, z_l21, z_l22, z_l23, z_l24, z_l25, z_l26, z_l27, z_l28, z_l32, z_l48, z_l56, z_l57, z_l59, z_l63, z_l64, z_l96, z_l97, z_l122, z_l127, z_l152, z_l158, z_l182, z_l255, z_l256, z_l310, z_l342, z_l406, z_l440, z_l729, z_l800, z_l3960, z_l14336, z_l14592, z_l100000, z_v1]
        · simp (disch := omega) only [z_gt, z_o1, z_o2, z_o3, z_o4, z_o5, z_o6, z_o7, z_o8, z_o9, z_bn, z_jn, nI_add, z_mul, z_sub, z_div, Nat.not_lt_zero, z_cl, z_le, z_lt, z_eq, z_inb, z_nz, z_isB0, z_notJ, z_notI, z_isB1, z_m1, z_pos, z_pos', z_nlt, z_nle', z_m1le, z_m1a, z_nle, z_sI0, z_sI1, z_sI2, z_sI3, z_sJ0, z_sJ1, z_sJ2, z_sJ3, z_sF0, z_sF1, z_sF2, z_sA0, z_sA1, z_sA2, z_sA3, z_sAA, z_sIA, ↓reduceIte, Nat.reduceEqDiff, Nat.reduceLeDiff, Nat.reduceLT, z_l0, z_l1, z_l2, z_l3, z_l4, z_l5, z_l6, z_l7, z_l8, z_l9, z_l10, z_l11, z_l12, z_l13, z_l14, z_l15, z_l16, z_l17, z_l18, z_l19, z_l20, z_l21, z_l22, z_l23, z_l24, z_l25, z_l26, z_l27, z_l28, z_l32, z_l48, z_l56, z_l57, z_l59, z_l63, z_l64, z_l96, z_l97, z_l122, z_l127, z_l152, z_l158, z_l182, z_l255, z_l256, z_l310, z_l342, z_l406, z_l440, z_l729, z_l800, z_l3960, z_l14336, z_l14592, z_l100000, z_v1, z_v2]
    · have hk1 : bk r (f - 2 * NW r) = 1 := by omega
      rw [hk1] at m1
      simp (disch := omega) only [z_gt, z_o1, z_o2, z_o3, z_o4, z_o5, z_o6, z_o7, z_o8, z_o9, z_bn, z_jn, nI_add, z_mul, z_sub, z_div, Nat.not_lt_zero, z_cl, z_le, z_lt, z_eq, z_inb, z_nz, z_isB0, z_notJ, z_notI, z_isB1, z_m1, z_pos, z_pos', z_nlt, z_nle', z_m1le, z_m1a, z_nle, z_sI0, z_sI1, z_sI2, z_sI3, z_sJ0, z_sJ1, z_sJ2, z_sJ3, z_sF0, z_sF1, z_sF2, z_sA0, z_sA1, z_sA2, z_sA3, z_sAA, z_sIA, ↓reduceIte, Nat.reduceEqDiff, Nat.reduceLeDiff, Nat.reduceLT, z_l0, z_l1, z_l2, z_l3, z_l4, z_l5, z_l6, z_l7, z_l8, z_l9, z_l10, z_l11, z_l12, z_l13, z_l14, z_l15, z_l16, z_l17, z_l18, z_l19, z_l20, z_l21, z_l22, z_l23, z_l24, z_l25, z_l26, z_l27, z_l28, z_l32, z_l48, z_l56, z_l57, z_l59, z_l63, z_l64, z_l96, z_l97, z_l122, z_l127, z_l152, z_l158, z_l182, z_l255, z_l256, z_l310, z_l342, z_l406, z_l440, z_l729, z_l800, z_l3960, z_l14336, z_l14592, z_l100000, m1, m2, m3]
      have e : (fun l => bad r (ask l) (f + 1) A) = fun l => dc (good r (ask l) A) (good r (ask l) B) 1 := by
        funext l
        rw [hbd l A (Or.inl rfl), if_neg hk]
      refine fin (vG.2.2 0 A &&& vG.2.2 0 B) (vG.2.2 1 A ||| vG.2.2 1 B) (by rw [e]; exact st1) _ rfl rfl ?_ ?_ ?_ ?_
      all_goals
        by_cases hAB : A = B
        · subst hAB
          simp (disch := omega) only [z_gt, z_o1, z_o2, z_o3, z_o4, z_o5, z_o6, z_o7, z_o8, z_o9, z_bn, z_jn, nI_add, z_mul, z_sub, z_div, Nat.not_lt_zero, z_cl, z_le, z_lt, z_eq, z_inb, z_nz, z_isB0, z_notJ, z_notI, z_isB1, z_m1, z_pos, z_pos', z_nlt, z_nle', z_m1le, z_m1a, z_nle, z_sI0, z_sI1, z_sI2, z_sI3, z_sJ0, z_sJ1, z_sJ2, z_sJ3, z_sF0, z_sF1, z_sF2, z_sA0, z_sA1, z_sA2, z_sA3, z_sAA, z_sIA, ↓reduceIte, Nat.reduceEqDiff, Nat.reduceLeDiff, Nat.reduceLT, z_l0, z_l1, z_l2, z_l3, z_l4, z_l5, z_l6, z_l7, z_l8, z_l9, z_l10, z_l11, z_l12, z_l13, z_l14, z_l15, z_l16, z_l17, z_l18, z_l19, z_l20, z_l21, z_l22, z_l23, z_l24, z_l25, z_l26, z_l27, z_l28, z_l32, z_l48, z_l56, z_l57, z_l59, z_l63, z_l64, z_l96, z_l97, z_l122, z_l127, z_l152, z_l158, z_l182, z_l255, z_l256, z_l310, z_l342, z_l406, z_l440, z_l729, z_l800, z_l3960, z_l14336, z_l14592, z_l100000, z_v1]
        · simp (disch := omega) only [z_gt, z_o1, z_o2, z_o3, z_o4, z_o5, z_o6, z_o7, z_o8, z_o9, z_bn, z_jn, nI_add, z_mul, z_sub, z_div, Nat.not_lt_zero, z_cl, z_le, z_lt, z_eq, z_inb, z_nz, z_isB0, z_notJ, z_notI, z_isB1, z_m1, z_pos, z_pos', z_nlt, z_nle', z_m1le, z_m1a, z_nle, z_sI0, z_sI1, z_sI2, z_sI3, z_sJ0, z_sJ1, z_sJ2, z_sJ3, z_sF0, z_sF1, z_sF2, z_sA0, z_sA1, z_sA2, z_sA3, z_sAA, z_sIA, ↓reduceIte, Nat.reduceEqDiff, Nat.reduceLeDiff, Nat.reduceLT, z_l0, z_l1, z_l2, z_l3, z_l4, z_l5, z_l6, z_l7, z_l8, z_l9, z_l10, z_l11, z_l12, z_l13, z_l14, z_l15, z_l16, z_l17, z_l18, z_l19, z_l20, z_l21, z_l22, z_l23, z_l24, z_l25, z_l26, z_l27, z_l28, z_l32, z_l48, z_l56, z_l57, z_l59, z_l63, z_l64, z_l96, z_l97, z_l122, z_l127, z_l152, z_l158, z_l182, z_l255, z_l256, z_l310, z_l342, z_l406, z_l440, z_l729, z_l800, z_l3960, z_l14336, z_l14592, z_l100000, z_v1, z_v2]
