/-! value, faulty, finds, tellsApart, worth: both answer the same -/
theorem tq_t {r : Nat → Int32} {t : Nat} (h : t < NT r) : tq r t = tv r t := by
  funext i
  unfold tq
  rw [if_pos h]
theorem x_blurred {r : Nat → Int32} (hw : WFc r) {vC vR : Vs} (hC : RC r vC) (h4 : vR.1 4 = nI 1) {ask : Nat → Nat → Nat} (ha : ∀ l i, i < NI r → ask l i ≤ 2) (hR : RW r vR 1 0 ask) {f : Nat} (hf : f < NF r) :
    Ok (f_X3_blurred 342 vR vC (nI f) (nI 0)) (fun x => ∀ l, l < 64 → (bJ x l = true ↔ blurN (good r (ask l)) (bad r (ask l) (f + 1)) r (NO r))) := by
  have hn := hw.nf
  unfold f_X3_blurred
  refine zl2 (I := fun m x y => ∃ o, y = nI o ∧ o ≤ NO r ∧ m = NO r - o ∧ ∀ l, l < 64 → (bJ x l = true ↔ blurN (good r (ask l)) (bad r (ask l) (f + 1)) r o)) ?_ FU (NO r) _ _ (by unfold FU; omega) ⟨0, rfl, by omega, by omega, fun l _ => ?_⟩
  · rintro m x y self ⟨o, rfl, hle, rfl, hz⟩ ih
    unfold f_X3_blurred_L6
    rw [hC.1.2.2.1]
    by_cases hb : NO r ≤ o
    · rw [ift hb (by omega)]
      have e : o = NO r := by omega
      subst e
      exact ok_some hz
    · rw [iff_ hb (by omega)]
      have hi := idx_lt (Or.inl rfl) (p := f + 1) (o := o) (k := 0) (by omega) (by omega) (by omega)
      have hj := idx_lt (Or.inl rfl) (p := 0) (o := o) (k := 0) (by omega) (by omega) (by omega)
      refine ok_o1e (x_rowOf (p := f + 1) h4 (by omega)) ?_
      refine ok_o1e (x_rowOf (p := 0) h4 (by omega)) ?_
      simp (disch := omega) only [z_gt, z_o1, z_o2, z_o3, z_o4, z_o5, z_o6, z_o7, z_o8, z_o9, z_bn, z_jn, nI_add, z_mul, z_sub, z_div, Nat.not_lt_zero, z_cl, z_le, z_lt, z_eq, z_inb, z_nz, z_isB0, z_notJ, z_notI, z_isB1, z_m1, z_pos, z_pos', z_nlt, z_nle', z_m1le, z_m1a, z_nle, z_sI0, z_sI1, z_sI2, z_sI3, z_sJ0, z_sJ1, z_sJ2, z_sJ3, z_sF0, z_sF1, z_sF2, z_sA0, z_sA1, z_sA2, z_sA3, z_sAA, z_sIA, ↓reduceIte, Nat.reduceEqDiff, Nat.reduceLeDiff, Nat.reduceLT, z_l0, z_l1, z_l2, z_l3, z_l4, z_l5, z_l6, z_l7, z_l8, z_l9, z_l10, z_l11, z_l12, z_l13, z_l14, z_l15, z_l16, z_l17, z_l18, z_l19, z_l20, z_l21, z_l22, z_l23, z_l24, z_l25, z_l26, z_l27, z_l28, z_l32, z_l48, z_l56, z_l57, z_l59, z_l63, z_l64, z_l96, z_l97, z_l122, z_l127, z_l152, z_l158, z_l182, z_l255, z_l256, z_l310, z_l342, z_l406, z_l440, z_l729, z_l800, z_l3960, z_l14336, z_l14592, z_l100000]
      refine ih _ _ _ (by omega) ⟨o + 1, rfl, by omega, rfl, fun l hl => ?_⟩
      obtain ⟨a1, a2⟩ : bJ (vR.2.2 2 (idx 1 (f + 1) o 0)) l = decide (bad r (ask l) (f + 1) (ou r o) = 0) ∧ bJ (vR.2.2 3 (idx 1 (f + 1) o 0)) l = decide (bad r (ask l) (f + 1) (ou r o) = 1) := hR (f + 1) (by omega) o (by omega) l hl
      obtain ⟨b1, b2⟩ : bJ (vR.2.2 2 (idx 1 0 o 0)) l = decide (bad r (ask l) 0 (ou r o) = 0) ∧ bJ (vR.2.2 3 (idx 1 0 o 0)) l = decide (bad r (ask l) 0 (ou r o) = 1) := hR 0 (by omega) o (by omega) l hl
      rw [bad_0] at b1 b2
      have ho2 := (hw.2.2.2.2.2.2.2.1 o (by omega)).2
      have p1 := bad_2 hw (fun i hi => ha l i hi) (f + 1) (ou r o + 1) _ (by omega) ho2
      have p2 := good_2 hw (fun i hi => ha l i hi) (ou r o + 1) _ (by omega) ho2
      have hs : blurN (good r (ask l)) (bad r (ask l) (f + 1)) r (o + 1) ↔ blurN (good r (ask l)) (bad r (ask l) (f + 1)) r o ∨ (good r (ask l) (ou r o) ≠ 2 ∧ bad r (ask l) (f + 1) (ou r o) = 2) := by
        constructor
        · rintro ⟨u, hu, z⟩
          by_cases e : u = o
          · rw [e] at z; exact Or.inr z
          · exact Or.inl ⟨u, by omega, z⟩
        · rintro (⟨u, hu, z⟩ | z)
          · exact ⟨u, by omega, z⟩
          · exact ⟨o, by omega, z⟩
      rw [hs, ← hz l hl, bJ_or, bJ_and, bJ_not _ hl, bJ_or, bJ_or, a1, a2, b1, b2, Bool.or_eq_true]
      generalize bad r (ask l) (f + 1) (ou r o) = y1 at p1 ⊢
      generalize good r (ask l) (ou r o) = y2 at p2 ⊢
      have q1 : y1 = 0 ∨ y1 = 1 ∨ y1 = 2 := by omega
      have q2 : y2 = 0 ∨ y2 = 1 ∨ y2 = 2 := by omega
      rcases q1 with rfl | rfl | rfl <;> rcases q2 with rfl | rfl | rfl <;> simp
  · rw [bJ_0]
    constructor
    · intro h; cases h
    · rintro ⟨u, hu, _⟩; omega
