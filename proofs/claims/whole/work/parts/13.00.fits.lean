/-! what was seen: which faults fit -/
def FT (r : Nat → Int32) (p t : Nat) : Bool := decide (∀ o, o < NO r → sn r t o = 2 ∨ bad r (tv r t) p (ou r o) = 2 ∨ bad r (tv r t) p (ou r o) = sn r t o)
def FN (r : Nat → Int32) (p n : Nat) : Bool := decide (∀ t, t < n → FT r p t = true)
/-- p fits all that was seen (0: the circuit without a fault) -/
def FPb (r : Nat → Int32) (p : Nat) : Bool := FN r p (NT r)
theorem FN_0 (r : Nat → Int32) (p : Nat) : FN r p 0 = true := by
  unfold FN
  rw [decide_eq_true_iff]
  intro t ht
  omega
theorem FN_s (r : Nat → Int32) (p n : Nat) : FN r p (n + 1) = (FN r p n && FT r p n) := by
  cases hf : FT r p n
  · rw [Bool.and_false]
    unfold FN
    rw [decide_eq_false_iff_not]
    intro h
    have := h n (by omega)
    rw [hf] at this
    cases this
  · rw [Bool.and_true]
    unfold FN
    by_cases h : ∀ t, t < n → FT r p t = true
    · rw [decide_eq_true h, decide_eq_true]
      intro t ht
      by_cases e : t = n
      · rw [e]; exact hf
      · exact h t (by omega)
    · rw [decide_eq_false h, decide_eq_false]
      intro h2
      exact h (fun t ht => h2 t (by omega))
theorem h_isFit {v : Vs} {n : Nat} {r : Nat → Int32} (h : MS v n r) (hw : WFc r) (ht : WFt r) {t p : Nat} (h1 : t < NT r) (hb : ∀ w, w < NW r → v.2.1 8 w = nI (bad r (tv r t) p w)) : f_X8_isFit v (nI t) = some (if FT r p t then nI 1 else nI 0) := by
  have hn := hw.nf
  refine ok_get ?_
  unfold f_X8_isFit
  refine zl1 (I := fun m x => ∃ o, x = nI o ∧ o ≤ NO r ∧ m = NO r - o ∧ ∀ u, u < o → sn r t u = 2 ∨ bad r (tv r t) p (ou r u) = 2 ∨ bad r (tv r t) p (ou r u) = sn r t u) ?_ FU (NO r) _ (by unfold FU; omega) ⟨0, rfl, by omega, by omega, fun u hu => by omega⟩
  rintro m x self ⟨o, rfl, hle, rfl, hz⟩ ih
  unfold f_X8_isFit_L2
  refine ok_o1e (g_outputs h hw) ?_
  by_cases hq : NO r ≤ o
  · rw [ift hq (by omega)]
    have hd : FT r p t = true := by
      unfold FT
      rw [decide_eq_true_iff]
      exact fun u hu => hz u (by omega)
    rw [hd]
    exact ok_some rfl
  · rw [iff_ hq (by omega)]
    obtain ⟨d1, d2⟩ := g_atBent h hw (o := o) (by omega)
    rw [hb _ d2] at d1
    have ds := g_seenAt h ht h1 (o := o) (by omega)
    have p1 := (ht.2.2 t o h1 (by omega)).2
    have p2 := bad_2 hw (fun i hi => (ht.2.1 t i h1 hi).2) p (ou r o + 1) _ (by omega) d2
    have next : (sn r t o = 2 ∨ bad r (tv r t) p (ou r o) = 2 ∨ bad r (tv r t) p (ou r o) = sn r t o) → Ok (self (nI (o + 1))) (fun a => a = if FT r p t then nI 1 else nI 0) := fun hh => by
      refine ih _ _ (by omega) ⟨o + 1, rfl, by omega, rfl, fun u hu => ?_⟩
      by_cases e : u = o
      · rw [e]; exact hh
      · exact hz u (by omega)
    have no : ¬ (sn r t o = 2 ∨ bad r (tv r t) p (ou r o) = 2 ∨ bad r (tv r t) p (ou r o) = sn r t o) → (if FT r p t then nI 1 else nI 0) = nI 0 := fun hh => by
      have hd : FT r p t = false := by
        unfold FT
        rw [decide_eq_false_iff_not]
        exact fun z => hh (z o (by omega))
      rw [hd]
      rfl
    generalize bad r (tv r t) p (ou r o) = y1 at d1 p2 next no
    generalize sn r t o = y2 at ds p1 next no
    by_cases c1 : y2 = 2
    · have nx := next (Or.inl c1)
      simp (disch := omega) only [z_gt, z_o1, z_o2, z_o3, z_o4, z_o5, z_o6, z_o7, z_o8, z_o9, z_bn, z_jn, nI_add, z_mul, z_sub, z_div, Nat.not_lt_zero, z_cl, z_le, z_lt, z_eq, z_inb, z_nz, z_isB0, z_notJ, z_notI, z_isB1, z_m1, z_pos, z_pos', z_nlt, z_nle', z_m1le, z_m1a, z_nle, z_sI0, z_sI1, z_sI2, z_sI3, z_sJ0, z_sJ1, z_sJ2, z_sJ3, z_sF0, z_sF1, z_sF2, z_sA0, z_sA1, z_sA2, z_sA3, z_sAA, z_sIA, ↓reduceIte, Nat.reduceEqDiff, Nat.reduceLeDiff, Nat.reduceLT, z_l0, z_l1, z_l2, z_l3, z_l4, z_l5, z_l6, z_l7, z_l8, z_l9, z_l10, z_l11, z_l12, z_l13, z_l14, z_l15, z_l16, z_l17, z_l18, z_l19, z_l20, z_l21, z_l22, z_l23, z_l24, z_l25, z_l26, z_l27, z_l28, z_l32, z_l48, z_l56, z_l57, z_l59, z_l63, z_l64, z_l96, z_l97, z_l122, z_l127, z_l152, z_l158, z_l182, z_l255, z_l256, z_l310, z_l342, z_l406, z_l440, z_l729, z_l800, z_l3960, z_l14336, z_l14592, z_l100000, d1, ds, c1]
      exact nx
    · by_cases c2 : y1 = 2
      · have nx := next (Or.inr (Or.inl c2))
        simp (disch := omega) only [z_gt, z_o1, z_o2, z_o3, z_o4, z_o5, z_o6, z_o7, z_o8, z_o9, z_bn, z_jn, nI_add, z_mul, z_sub, z_div, Nat.not_lt_zero, z_cl, z_le, z_lt, z_eq, z_inb, z_nz, z_isB0, z_notJ, z_notI, z_isB1, z_m1, z_pos, z_pos', z_nlt, z_nle', z_m1le, z_m1a, z_nle, z_sI0, z_sI1, z_sI2, z_sI3, z_sJ0, z_sJ1, z_sJ2, z_sJ3, z_sF0, z_sF1, z_sF2, z_sA0, z_sA1, z_sA2, z_sA3, z_sAA, z_sIA, ↓reduceIte, Nat.reduceEqDiff, Nat.reduceLeDiff, Nat.reduceLT, z_l0, z_l1, z_l2, z_l3, z_l4, z_l5, z_l6, z_l7, z_l8, z_l9, z_l10, z_l11, z_l12, z_l13, z_l14, z_l15, z_l16, z_l17, z_l18, z_l19, z_l20, z_l21, z_l22, z_l23, z_l24, z_l25, z_l26, z_l27, z_l28, z_l32, z_l48, z_l56, z_l57, z_l59, z_l63, z_l64, z_l96, z_l97, z_l122, z_l127, z_l152, z_l158, z_l182, z_l255, z_l256, z_l310, z_l342, z_l406, z_l440, z_l729, z_l800, z_l3960, z_l14336, z_l14592, z_l100000, d1, ds, c1, c2]
        exact nx
      · by_cases c3 : y1 = y2
        · have nx := next (Or.inr (Or.inr c3))
          simp (disch := omega) only [z_gt, z_o1, z_o2, z_o3, z_o4, z_o5, z_o6, z_o7, z_o8, z_o9, z_bn, z_jn, nI_add, z_mul, z_sub, z_div, Nat.not_lt_zero, z_cl, z_le, z_lt, z_eq, z_inb, z_nz, z_isB0, z_notJ, z_notI, z_isB1, z_m1, z_pos, z_pos', z_nlt, z_nle', z_m1le, z_m1a, z_nle, z_sI0, z_sI1, z_sI2, z_sI3, z_sJ0, z_sJ1, z_sJ2, z_sJ3, z_sF0, z_sF1, z_sF2, z_sA0, z_sA1, z_sA2, z_sA3, z_sAA, z_sIA, ↓reduceIte, Nat.reduceEqDiff, Nat.reduceLeDiff, Nat.reduceLT, z_l0, z_l1, z_l2, z_l3, z_l4, z_l5, z_l6, z_l7, z_l8, z_l9, z_l10, z_l11, z_l12, z_l13, z_l14, z_l15, z_l16, z_l17, z_l18, z_l19, z_l20, z_l21, z_l22, z_l23, z_l24, z_l25, z_l26, z_l27, z_l28, z_l32, z_l48, z_l56, z_l57, z_l59, z_l63, z_l64, z_l96, z_l97, z_l122, z_l127, z_l152, z_l158, z_l182, z_l255, z_l256, z_l310, z_l342, z_l406, z_l440, z_l729, z_l800, z_l3960, z_l14336, z_l14592, z_l100000, d1, ds, c1, c2, c3]
          exact nx
        · have nx := no (by omega)
          rw [nx]
          simp (disch := omega) only [z_gt, z_o1, z_o2, z_o3, z_o4, z_o5, z_o6, z_o7, z_o8, z_o9, z_bn, z_jn, nI_add, z_mul, z_sub, z_div, Nat.not_lt_zero, z_cl, z_le, z_lt, z_eq, z_inb, z_nz, z_isB0, z_notJ, z_notI, z_isB1, z_m1, z_pos, z_pos', z_nlt, z_nle', z_m1le, z_m1a, z_nle, z_sI0, z_sI1, z_sI2, z_sI3, z_sJ0, z_sJ1, z_sJ2, z_sJ3, z_sF0, z_sF1, z_sF2, z_sA0, z_sA1, z_sA2, z_sA3, z_sAA, z_sIA, ↓reduceIte, Nat.reduceEqDiff, Nat.reduceLeDiff, Nat.reduceLT, z_l0, z_l1, z_l2, z_l3, z_l4, z_l5, z_l6, z_l7, z_l8, z_l9, z_l10, z_l11, z_l12, z_l13, z_l14, z_l15, z_l16, z_l17, z_l18, z_l19, z_l20, z_l21, z_l22, z_l23, z_l24, z_l25, z_l26, z_l27, z_l28, z_l32, z_l48, z_l56, z_l57, z_l59, z_l63, z_l64, z_l96, z_l97, z_l122, z_l127, z_l152, z_l158, z_l182, z_l255, z_l256, z_l310, z_l342, z_l406, z_l440, z_l729, z_l800, z_l3960, z_l14336, z_l14592, z_l100000, d1, ds, c1, c2, c3]
          exact ok_some rfl
theorem bJ_ext64 {x : Int32} (h : bI x 31 = false) {l : Nat} (hl : l < 64) : bJ x.toInt64 l = bI x l := by
  unfold bJ bI
  rw [Int32.toBitVec_toInt64, BitVec.getLsbD_signExtend]
  by_cases h32 : l < 32
  · simp [hl, h32]
  · have hm : x.toBitVec.msb = false := by
      rw [BitVec.msb_eq_getLsbD_last]
      exact h
    have hb : x.toBitVec.getLsbD l = false := BitVec.getLsbD_of_ge _ _ (by omega)
    simp [hl, h32, hm, hb]
theorem x_fits {r : Nat → Int32} (hw : WFc r) (ht : WFt r) {vF vC vT vR vG : Vs} (hC : RC r vC) (hT : RT r vT) (h4 : vR.1 4 = nI 1) (hR : TR r vR vG) {p : Nat} (hp : p ≤ NF r) : f_X7_fits vF vC vT 342 vR (fI p) = some (if FPb r p then nI 1 else nI 0) := by
  have hn := hw.nf
  have h16 := ht.1.2
  refine ok_get ?_
  unfold f_X7_fits
  refine zl1 (I := fun m x => ∃ o, x = nI o ∧ o ≤ NO r ∧ m = NO r - o ∧ ∀ u, u < o → ∀ t, t < NT r → sn r t u = 2 ∨ bad r (tv r t) p (ou r u) = 2 ∨ bad r (tv r t) p (ou r u) = sn r t u) ?_ FU (NO r) _ (by unfold FU; omega) ⟨0, rfl, by omega, by omega, fun u hu => by omega⟩
  rintro m x self ⟨o, rfl, hle, rfl, hz⟩ ih
  unfold f_X7_fits_L2
  rw [hC.1.2.2.1]
  by_cases hq : NO r ≤ o
  · rw [ift hq (by omega)]
    have hd : FPb r p = true := by
      unfold FPb FN
      rw [decide_eq_true_iff]
      intro t h1
      unfold FT
      rw [decide_eq_true_iff]
      exact fun u hu => hz u (by omega) t h1
    rw [hd]
    exact ok_some rfl
  · rw [iff_ hq (by omega)]
    have hi := idx_lt (Or.inl rfl) (p := p) (o := o) (k := 0) (by omega) (by omega) (by omega)
    rw [z_l0]
    refine ok_o1e (x_rowOf h4 (by omega)) ?_
    refine ok_gd (z_inb (by omega) (by omega)) ?_
    refine ok_gd (z_inb (by omega) (by omega)) ?_
    refine ok_gd (z_inb (by omega) (by omega)) ?_
    refine ok_gd (z_inb (by omega) (by omega)) ?_
    refine ok_bn ?_
    rw [z_cl (by omega), z_cl (by omega)]
    have hbit : ∀ t, t < 64 → bJ (((vT.2.1 3 o).toInt64 &&& vR.2.2 3 (idx 1 p o 0)) ||| ((vT.2.1 4 o).toInt64 &&& vR.2.2 2 (idx 1 p o 0))) t = (decide (t < NT r ∧ sn r t o = 0 ∧ bad r (tv r t) p (ou r o) = 1) || decide (t < NT r ∧ sn r t o = 1 ∧ bad r (tv r t) p (ou r o) = 0)) := fun t h64 => by
      obtain ⟨a1, a2⟩ : bJ (vR.2.2 2 (idx 1 p o 0)) t = decide (bad r (tq r t) p (ou r o) = 0) ∧ bJ (vR.2.2 3 (idx 1 p o 0)) t = decide (bad r (tq r t) p (ou r o) = 1) := hR.1 p hp o (by omega) t h64
      have s31 := hT.2.2 o 31 (by omega) (by omega)
      have e1 : bI (vT.2.1 3 o) 31 = false := by rw [s31.1]; simp; omega
      have e2 : bI (vT.2.1 4 o) 31 = false := by rw [s31.2]; simp; omega
      rw [bJ_or, bJ_and, bJ_and, bJ_ext64 e1 h64, bJ_ext64 e2 h64, a1, a2]
      by_cases h1 : t < NT r
      · obtain ⟨b1, b2⟩ := hT.2.2 o t (by omega) (by omega)
        rw [b1, b2, tq_t h1]
        have ho : o < NO r := by omega
        simp [h1, ho]
      · have z1 : bI (vT.2.1 3 o) t = false := by
          by_cases h32 : t < 32
          · rw [(hT.2.2 o t (by omega) h32).1]; simp [h1]
          · exact bI_ge (by omega)
        have z2 : bI (vT.2.1 4 o) t = false := by
          by_cases h32 : t < 32
          · rw [(hT.2.2 o t (by omega) h32).2]; simp [h1]
          · exact bI_ge (by omega)
        rw [z1, z2]
        simp [h1]
    generalize ((vT.2.1 3 o).toInt64 &&& vR.2.2 3 (idx 1 p o 0)) ||| ((vT.2.1 4 o).toInt64 &&& vR.2.2 2 (idx 1 p o 0)) = y at hbit ⊢
    by_cases h0 : y = 0
    · rw [if_pos (show lg_cmp y 0 = nI 0 from (lg_cmp_eq _ _).mpr h0), z_l1, nI_add]
      refine ih _ _ (by omega) ⟨o + 1, rfl, by omega, rfl, fun u hu t h1 => ?_⟩
      by_cases e : u = o
      · subst e
        have hb := hbit t (by omega)
        rw [h0, bJ_0] at hb
        have p1 := (ht.2.2 t u h1 (by omega)).2
        have p2 := bad_2 hw (fun i hi => (ht.2.1 t i h1 hi).2) p (ou r u + 1) _ (by omega) (hw.2.2.2.2.2.2.2.1 u (by omega)).2
        generalize bad r (tv r t) p (ou r u) = y1 at hb p2 ⊢
        generalize sn r t u = y2 at hb p1 ⊢
        have q1 : y1 = 0 ∨ y1 = 1 ∨ y1 = 2 := by omega
        have q2 : y2 = 0 ∨ y2 = 1 ∨ y2 = 2 := by omega
        rcases q1 with rfl | rfl | rfl <;> rcases q2 with rfl | rfl | rfl <;> simp [h1] at hb ⊢
      · exact hz u (by omega) t h1
    · rw [if_neg (show ¬ lg_cmp y 0 = nI 0 from fun z => h0 ((lg_cmp_eq _ _).mp z))]
      have hex : ∃ t, t < 64 ∧ bJ y t = true := by
        refine Classical.byContradiction (fun hno => h0 ?_)
        rw [bJ_ne0]
        intro l hl
        cases hb2 : bJ y l with
        | false => rfl
        | true => exact absurd ⟨l, hl, hb2⟩ hno
      obtain ⟨t, h64, hy⟩ := hex
      have hb := hbit t h64
      rw [hy] at hb
      have hd : FPb r p = false := by
        unfold FPb FN
        rw [decide_eq_false_iff_not]
        intro hall
        have h1 : t < NT r := by
          refine Classical.byContradiction (fun q => ?_)
          simp [q] at hb
        have := hall t h1
        unfold FT at this
        rw [decide_eq_true_iff] at this
        have := this o (by omega)
        generalize bad r (tv r t) p (ou r o) = y1 at hb this
        generalize sn r t o = y2 at hb this
        simp [h1] at hb
        omega
      rw [hd]
      exact ok_some rfl
