/-! the class: questions' lanes; rows made anew -/
def RT (r : Nat → Int32) (v : Vs) : Prop := v.1 0 = nI (NT r) ∧
  (∀ t i, t < NT r → i < NI r → bI (v.2.1 1 t) i = decide (tv r t i = 1) ∧ bI (v.2.1 2 t) i = decide (tv r t i = 2)) ∧
  (∀ o t, o < 6 → t < 32 → bI (v.2.1 3 o) t = decide (t < NT r ∧ o < NO r ∧ sn r t o = 0) ∧ bI (v.2.1 4 o) t = decide (t < NT r ∧ o < NO r ∧ sn r t o = 1))
/-- what lane l asks: its test, or nothing known -/
def tq (r : Nat → Int32) (l i : Nat) : Nat := if l < NT r then tv r l i else 2
theorem tq_2 {r : Nat → Int32} (ht : WFt r) (l i : Nat) (hi : i < NI r) : tq r l i ≤ 2 := by
  unfold tq
  split
  · rename_i h
    exact (ht.2.1 l i h hi).2
  · omega
theorem x_setTestInputs {r : Nat → Int32} (hw : WFc r) (ht : WFt r) {vT vL : Vs} (hT : RT r vT) : Ok (f_X2_setTestInputs vL vT (nI (NI r))) (fun v' => ∀ w, w < NI r → LW v' w (fun l => tq r l w)) := by
  have hn := hw.nf
  have h16 := ht.1.2
  unfold f_X2_setTestInputs
  refine zl2 (I := fun m x v' => ∃ i, x = nI i ∧ i ≤ NI r ∧ m = NI r - i ∧ ∀ w, w < i → LW v' w (fun l => tq r l w)) ?_ FU (NI r) _ _ (by unfold FU; omega) ⟨0, rfl, by omega, by omega, fun w hw => by omega⟩
  rintro m x v' self ⟨i, rfl, hle, rfl, hz⟩ ih
  unfold f_X2_setTestInputs_L2
  by_cases hb : NI r ≤ i
  · rw [ift hb (by omega)]
    exact ok_some (fun w hw => hz w (by omega))
  · rw [iff_ hb (by omega)]
    simp (disch := omega) only [z_gt, z_o1, z_o2, z_o3, z_o4, z_o5, z_o6, z_o7, z_o8, z_o9, z_bn, z_jn, nI_add, z_mul, z_sub, z_div, Nat.not_lt_zero, z_cl, z_le, z_lt, z_eq, z_inb, z_nz, z_isB0, z_notJ, z_notI, z_isB1, z_m1, z_pos, z_pos', z_nlt, z_nle', z_m1le, z_m1a, z_nle, z_sI0, z_sI1, z_sI2, z_sI3, z_sJ0, z_sJ1, z_sJ2, z_sJ3, z_sF0, z_sF1, z_sF2, z_sA0, z_sA1, z_sA2, z_sA3, z_sAA, z_sIA, ↓reduceIte, Nat.reduceEqDiff, Nat.reduceLeDiff, Nat.reduceLT, z_l0, z_l1, z_l2, z_l3, z_l4, z_l5, z_l6, z_l7, z_l8, z_l9, z_l10, z_l11, z_l12, z_l13, z_l14, z_l15, z_l16, z_l17, z_l18, z_l19, z_l20, z_l21, z_l22, z_l23, z_l24, z_l25, z_l26, z_l27, z_l28, z_l32, z_l48, z_l56, z_l57, z_l59, z_l63, z_l64, z_l96, z_l97, z_l122, z_l127, z_l152, z_l158, z_l182, z_l255, z_l256, z_l310, z_l342, z_l406, z_l440, z_l729, z_l800, z_l3960, z_l14336, z_l14592, z_l100000]
    refine zl2 (I := fun m x v2 => ∃ t, x = nI t ∧ t ≤ NT r ∧ m = NT r - t ∧ (∀ w, w < i → LW v2 w (fun l => tq r l w)) ∧ ∀ l, l < 64 → bJ (v2.2.2 0 i) l = decide (l < t ∧ tv r l i = 0) ∧ bJ (v2.2.2 1 i) l = decide (l < t ∧ tv r l i = 1)) ?_ FU (NT r) _ _ (by unfold FU; omega) ⟨0, rfl, by omega, by omega, fun w hw => ?_, fun l _ => ?_⟩
    · rintro m x v2 self2 ⟨t, rfl, hle2, rfl, hz2, hy2⟩ ih2
      unfold f_X2_setTestInputs_L24
      rw [hT.1]
      by_cases hb2 : NT r ≤ t
      · rw [ift hb2 (by omega), z_l1, nI_add]
        refine ih _ _ _ (by omega) ⟨i + 1, rfl, by omega, rfl, fun w hw2 => ?_⟩
        by_cases hw3 : w = i
        · subst hw3
          intro l hl
          obtain ⟨y1, y2⟩ := hy2 l hl
          rw [y1, y2]
          have e : t = NT r := by omega
          subst e
          unfold tq
          by_cases hl2 : l < NT r
          · simp [hl2]
          · simp [hl2]
        · exact hz2 w (by omega)
      · rw [iff_ hb2 (by omega)]
        refine ok_gd (z_inb (by omega) (by omega)) ?_
        rw [z_cl (by omega)]
        obtain ⟨b1, b2⟩ := hT.2.1 t i (by omega) (by omega)
        have h2 := (ht.2.1 t i (by omega) (by omega)).2
        -- the rows of i get test t
        have fin : ∀ v3 : Vs, (∀ w, w < i → v3.2.2 0 w = v2.2.2 0 w ∧ v3.2.2 1 w = v2.2.2 1 w) → (∀ l, l < 64 → bJ (v3.2.2 0 i) l = (bJ (v2.2.2 0 i) l || decide (l = t ∧ tv r t i = 0)) ∧ bJ (v3.2.2 1 i) l = (bJ (v2.2.2 1 i) l || decide (l = t ∧ tv r t i = 1))) → Ok (self2 (nI (t + 1)) v3) (fun v' => ∀ w, w < NI r → LW v' w (fun l => tq r l w)) := by
          intro v3 k1 k2
          refine ih2 _ _ _ (by omega) ⟨t + 1, rfl, by omega, rfl, fun w hw2 => (hz2 w hw2).same (k1 w hw2).1 (k1 w hw2).2, fun l hl => ?_⟩
          obtain ⟨y1, y2⟩ := hy2 l hl
          rw [(k2 l hl).1, (k2 l hl).2, y1, y2]
          by_cases hl2 : l = t
          · subst hl2
            simp
          · by_cases hl3 : l < t
            · have : l < t + 1 := by omega
              simp [hl2, hl3, this]
            · have : ¬ l < t + 1 := by omega
              simp [hl2, hl3, this]
        have hset : ∀ (x : Int64) l, l < 64 → bJ (x ||| ((1 : Int64) <<< ((nI t).toInt64 &&& 63))) l = (bJ x l || decide (l = t)) := fun x l _ => by rw [bJ_or, bJ_shl1 (by omega)]
        have hv : tv r t i = 0 ∨ tv r t i = 1 ∨ tv r t i = 2 := by omega
        rcases hv with hv | hv | hv
        · have h1 : f_X0_hasBit (vT.2.1 1 t) (nI i) = some (nI 0) := x_hb0 (by omega) (by rw [b1, hv]; rfl)
          have h3 : f_X0_hasBit (vT.2.1 2 t) (nI i) = some (nI 0) := x_hb0 (by omega) (by rw [b2, hv]; rfl)
          simp (disch := omega) only [z_gt, z_o1, z_o2, z_o3, z_o4, z_o5, z_o6, z_o7, z_o8, z_o9, z_bn, z_jn, nI_add, z_mul, z_sub, z_div, Nat.not_lt_zero, z_cl, z_le, z_lt, z_eq, z_inb, z_nz, z_isB0, z_notJ, z_notI, z_isB1, z_m1, z_pos, z_pos', z_nlt, z_nle', z_m1le, z_m1a, z_nle, z_sI0, z_sI1, z_sI2, z_sI3, z_sJ0, z_sJ1, z_sJ2, z_sJ3, z_sF0, z_sF1, z_sF2, z_sA0, z_sA1, z_sA2, z_sA3, z_sAA, z_sIA, ↓reduceIte, Nat.reduceEqDiff, Nat.reduceLeDiff, Nat.reduceLT, z_l0, z_l1, z_l2, z_l3, z_l4, z_l5, z_l6, z_l7, z_l8, z_l9, z_l10, z_l11, z_l12, z_l13, z_l14, z_l15, z_l16, z_l17, z_l18, z_l19, z_l20, z_l21, z_l22, z_l23, z_l24, z_l25, z_l26, z_l27, z_l28, z_l32, z_l48, z_l56, z_l57, z_l59, z_l63, z_l64, z_l96, z_l97, z_l122, z_l127, z_l152, z_l158, z_l182, z_l255, z_l256, z_l310, z_l342, z_l406, z_l440, z_l729, z_l800, z_l3960, z_l14336, z_l14592, z_l100000, h1, h3]
          refine fin _ (fun w hw2 => ⟨?_, ?_⟩) (fun l hl => ?_)
          · simp (disch := omega) only [z_gt, z_o1, z_o2, z_o3, z_o4, z_o5, z_o6, z_o7, z_o8, z_o9, z_bn, z_jn, nI_add, z_mul, z_sub, z_div, Nat.not_lt_zero, z_cl, z_le, z_lt, z_eq, z_inb, z_nz, z_isB0, z_notJ, z_notI, z_isB1, z_m1, z_pos, z_pos', z_nlt, z_nle', z_m1le, z_m1a, z_nle, z_sI0, z_sI1, z_sI2, z_sI3, z_sJ0, z_sJ1, z_sJ2, z_sJ3, z_sF0, z_sF1, z_sF2, z_sA0, z_sA1, z_sA2, z_sA3, z_sAA, z_sIA, ↓reduceIte, Nat.reduceEqDiff, Nat.reduceLeDiff, Nat.reduceLT, z_l0, z_l1, z_l2, z_l3, z_l4, z_l5, z_l6, z_l7, z_l8, z_l9, z_l10, z_l11, z_l12, z_l13, z_l14, z_l15, z_l16, z_l17, z_l18, z_l19, z_l20, z_l21, z_l22, z_l23, z_l24, z_l25, z_l26, z_l27, z_l28, z_l32, z_l48, z_l56, z_l57, z_l59, z_l63, z_l64, z_l96, z_l97, z_l122, z_l127, z_l152, z_l158, z_l182, z_l255, z_l256, z_l310, z_l342, z_l406, z_l440, z_l729, z_l800, z_l3960, z_l14336, z_l14592, z_l100000, z_v2]
          · simp (disch := omega) only [z_gt, z_o1, z_o2, z_o3, z_o4, z_o5, z_o6, z_o7, z_o8, z_o9, z_bn, z_jn, nI_add, z_mul, z_sub, z_div, Nat.not_lt_zero, z_cl, z_le, z_lt, z_eq, z_inb, z_nz, z_isB0, z_notJ, z_notI, z_isB1, z_m1, z_pos, z_pos', z_nlt, z_nle', z_m1le, z_m1a, z_nle, z_sI0, z_sI1, z_sI2, z_sI3, z_sJ0, z_sJ1, z_sJ2, z_sJ3, z_sF0, z_sF1, z_sF2, z_sA0, z_sA1, z_sA2, z_sA3, z_sAA, z_sIA, ↓reduceIte, Nat.reduceEqDiff, Nat.reduceLeDiff, Nat.reduceLT, z_l0, z_l1, z_l2, z_l3, z_l4, z_l5, z_l6, z_l7, z_l8, z_l9, z_l10, z_l11, z_l12, z_l13, z_l14, z_l15, z_l16, z_l17, z_l18, z_l19, z_l20, z_l21, z_l22, z_l23, z_l24, z_l25, z_l26, z_l27, z_l28, z_l32, z_l48, z_l56, z_l57, z_l59, z_l63, z_l64, z_l96, z_l97, z_l122, z_l127, z_l152, z_l158, z_l182, z_l255, z_l256, z_l310, z_l342, z_l406, z_l440, z_l729, z_l800, z_l3960, z_l14336, z_l14592, z_l100000]
          · simp (disch := omega) only [z_gt, z_o1, z_o2, z_o3, z_o4, z_o5, z_o6, z_o7, z_o8, z_o9, z_bn, z_jn, nI_add, z_mul, z_sub, z_div, Nat.not_lt_zero, z_cl, z_le, z_lt, z_eq, z_inb, z_nz, z_isB0, z_notJ, z_notI, z_isB1, z_m1, z_pos, z_pos', z_nlt, z_nle', z_m1le, z_m1a, z_nle, z_sI0, z_sI1, z_sI2, z_sI3, z_sJ0, z_sJ1, z_sJ2, z_sJ3, z_sF0, z_sF1, z_sF2, z_sA0, z_sA1, z_sA2, z_sA3, z_sAA, z_sIA, ↓reduceIte, Nat.reduceEqDiff, Nat.reduceLeDiff, Nat.reduceLT, z_l0, z_l1, z_l2, z_l3, z_l4, z_l5, z_l6, z_l7, z_l8, z_l9, z_l10, z_l11, z_l12, z_l13, z_l14, z_l15, z_l16, z_l17, z_l18, z_l19, z_l20, z_l21, z_l22, z_l23, z_l24, z_l25, z_l26, z_l27, z_l28, z_l32, z_l48, z_l56, z_l57, z_l59, z_l63, z_l64, z_l96, z_l97, z_l122, z_l127, z_l152, z_l158, z_l182, z_l255, z_l256, z_l310, z_l342, z_l406, z_l440, z_l729, z_l800, z_l3960, z_l14336, z_l14592, z_l100000, z_v1]
            rw [hset _ l hl, hv]
            simp
        · have h1 : f_X0_hasBit (vT.2.1 1 t) (nI i) = some (nI 1) := x_hb1 (by omega) (by rw [b1, hv]; rfl)
          simp (disch := omega) only [z_gt, z_o1, z_o2, z_o3, z_o4, z_o5, z_o6, z_o7, z_o8, z_o9, z_bn, z_jn, nI_add, z_mul, z_sub, z_div, Nat.not_lt_zero, z_cl, z_le, z_lt, z_eq, z_inb, z_nz, z_isB0, z_notJ, z_notI, z_isB1, z_m1, z_pos, z_pos', z_nlt, z_nle', z_m1le, z_m1a, z_nle, z_sI0, z_sI1, z_sI2, z_sI3, z_sJ0, z_sJ1, z_sJ2, z_sJ3, z_sF0, z_sF1, z_sF2, z_sA0, z_sA1, z_sA2, z_sA3, z_sAA, z_sIA, ↓reduceIte, Nat.reduceEqDiff, Nat.reduceLeDiff, Nat.reduceLT, z_l0, z_l1, z_l2, z_l3, z_l4, z_l5, z_l6, z_l7, z_l8, z_l9, z_l10, z_l11, z_l12, z_l13, z_l14, z_l15, z_l16, z_l17, z_l18, z_l19, z_l20, z_l21, z_l22, z_l23, z_l24, z_l25, z_l26, z_l27, z_l28, z_l32, z_l48, z_l56, z_l57, z_l59, z_l63, z_l64, z_l96, z_l97, z_l122, z_l127, z_l152, z_l158, z_l182, z_l255, z_l256, z_l310, z_l342, z_l406, z_l440, z_l729, z_l800, z_l3960, z_l14336, z_l14592, z_l100000, h1]
          refine fin _ (fun w hw2 => ⟨?_, ?_⟩) (fun l hl => ?_)
          · simp (disch := omega) only [z_gt, z_o1, z_o2, z_o3, z_o4, z_o5, z_o6, z_o7, z_o8, z_o9, z_bn, z_jn, nI_add, z_mul, z_sub, z_div, Nat.not_lt_zero, z_cl, z_le, z_lt, z_eq, z_inb, z_nz, z_isB0, z_notJ, z_notI, z_isB1, z_m1, z_pos, z_pos', z_nlt, z_nle', z_m1le, z_m1a, z_nle, z_sI0, z_sI1, z_sI2, z_sI3, z_sJ0, z_sJ1, z_sJ2, z_sJ3, z_sF0, z_sF1, z_sF2, z_sA0, z_sA1, z_sA2, z_sA3, z_sAA, z_sIA, ↓reduceIte, Nat.reduceEqDiff, Nat.reduceLeDiff, Nat.reduceLT, z_l0, z_l1, z_l2, z_l3, z_l4, z_l5, z_l6, z_l7, z_l8, z_l9, z_l10, z_l11, z_l12, z_l13, z_l14, z_l15, z_l16, z_l17, z_l18, z_l19, z_l20, z_l21, z_l22, z_l23, z_l24, z_l25, z_l26, z_l27, z_l28, z_l32, z_l48, z_l56, z_l57, z_l59, z_l63, z_l64, z_l96, z_l97, z_l122, z_l127, z_l152, z_l158, z_l182, z_l255, z_l256, z_l310, z_l342, z_l406, z_l440, z_l729, z_l800, z_l3960, z_l14336, z_l14592, z_l100000]
          · simp (disch := omega) only [z_gt, z_o1, z_o2, z_o3, z_o4, z_o5, z_o6, z_o7, z_o8, z_o9, z_bn, z_jn, nI_add, z_mul, z_sub, z_div, Nat.not_lt_zero, z_cl, z_le, z_lt, z_eq, z_inb, z_nz, z_isB0, z_notJ, z_notI, z_isB1, z_m1, z_pos, z_pos', z_nlt, z_nle', z_m1le, z_m1a, z_nle, z_sI0, z_sI1, z_sI2, z_sI3, z_sJ0, z_sJ1, z_sJ2, z_sJ3, z_sF0, z_sF1, z_sF2, z_sA0, z_sA1, z_sA2, z_sA3, z_sAA, z_sIA, ↓reduceIte, Nat.reduceEqDiff, Nat.reduceLeDiff, Nat.reduceLT, z_l0, z_l1, z_l2, z_l3, z_l4, z_l5, z_l6, z_l7, z_l8, z_l9, z_l10, z_l11, z_l12, z_l13, z_l14, z_l15, z_l16, z_l17, z_l18, z_l19, z_l20, z_l21, z_l22, z_l23, z_l24, z_l25, z_l26, z_l27, z_l28, z_l32, z_l48, z_l56, z_l57, z_l59, z_l63, z_l64, z_l96, z_l97, z_l122, z_l127, z_l152, z_l158, z_l182, z_l255, z_l256, z_l310, z_l342, z_l406, z_l440, z_l729, z_l800, z_l3960, z_l14336, z_l14592, z_l100000, z_v2]
          · simp (disch := omega) only [z_gt, z_o1, z_o2, z_o3, z_o4, z_o5, z_o6, z_o7, z_o8, z_o9, z_bn, z_jn, nI_add, z_mul, z_sub, z_div, Nat.not_lt_zero, z_cl, z_le, z_lt, z_eq, z_inb, z_nz, z_isB0, z_notJ, z_notI, z_isB1, z_m1, z_pos, z_pos', z_nlt, z_nle', z_m1le, z_m1a, z_nle, z_sI0, z_sI1, z_sI2, z_sI3, z_sJ0, z_sJ1, z_sJ2, z_sJ3, z_sF0, z_sF1, z_sF2, z_sA0, z_sA1, z_sA2, z_sA3, z_sAA, z_sIA, ↓reduceIte, Nat.reduceEqDiff, Nat.reduceLeDiff, Nat.reduceLT, z_l0, z_l1, z_l2, z_l3, z_l4, z_l5, z_l6, z_l7, z_l8, z_l9, z_l10, z_l11, z_l12, z_l13, z_l14, z_l15, z_l16, z_l17, z_l18, z_l19, z_l20, z_l21, z_l22, z_l23, z_l24, z_l25, z_l26, z_l27, z_l28, z_l32, z_l48, z_l56, z_l57, z_l59, z_l63, z_l64, z_l96, z_l97, z_l122, z_l127, z_l152, z_l158, z_l182, z_l255, z_l256, z_l310, z_l342, z_l406, z_l440, z_l729, z_l800, z_l3960, z_l14336, z_l14592, z_l100000, z_v1]
            rw [hset _ l hl, hv]
            simp
        · have h1 : f_X0_hasBit (vT.2.1 1 t) (nI i) = some (nI 0) := x_hb0 (by omega) (by rw [b1, hv]; rfl)
          have h3 : f_X0_hasBit (vT.2.1 2 t) (nI i) = some (nI 1) := x_hb1 (by omega) (by rw [b2, hv]; rfl)
          simp (disch := omega) only [z_gt, z_o1, z_o2, z_o3, z_o4, z_o5, z_o6, z_o7, z_o8, z_o9, z_bn, z_jn, nI_add, z_mul, z_sub, z_div, Nat.not_lt_zero, z_cl, z_le, z_lt, z_eq, z_inb, z_nz, z_isB0, z_notJ, z_notI, z_isB1, z_m1, z_pos, z_pos', z_nlt, z_nle', z_m1le, z_m1a, z_nle, z_sI0, z_sI1, z_sI2, z_sI3, z_sJ0, z_sJ1, z_sJ2, z_sJ3, z_sF0, z_sF1, z_sF2, z_sA0, z_sA1, z_sA2, z_sA3, z_sAA, z_sIA, ↓reduceIte, Nat.reduceEqDiff, Nat.reduceLeDiff, Nat.reduceLT, z_l0, z_l1, z_l2, z_l3, z_l4, z_l5, z_l6, z_l7, z_l8, z_l9, z_l10, z_l11, z_l12, z_l13, z_l14, z_l15, z_l16, z_l17, z_l18, z_l19, z_l20, z_l21, z_l22, z_l23, z_l24, z_l25, z_l26, z_l27, z_l28, z_l32, z_l48, z_l56, z_l57, z_l59, z_l63, z_l64, z_l96, z_l97, z_l122, z_l127, z_l152, z_l158, z_l182, z_l255, z_l256, z_l310, z_l342, z_l406, z_l440, z_l729, z_l800, z_l3960, z_l14336, z_l14592, z_l100000, h1, h3]
          refine fin _ (fun w hw2 => ⟨rfl, rfl⟩) (fun l hl => ?_)
          rw [hv]
          simp
    · refine (hz w hw).same ?_ ?_
      · simp (disch := omega) only [z_gt, z_o1, z_o2, z_o3, z_o4, z_o5, z_o6, z_o7, z_o8, z_o9, z_bn, z_jn, nI_add, z_mul, z_sub, z_div, Nat.not_lt_zero, z_cl, z_le, z_lt, z_eq, z_inb, z_nz, z_isB0, z_notJ, z_notI, z_isB1, z_m1, z_pos, z_pos', z_nlt, z_nle', z_m1le, z_m1a, z_nle, z_sI0, z_sI1, z_sI2, z_sI3, z_sJ0, z_sJ1, z_sJ2, z_sJ3, z_sF0, z_sF1, z_sF2, z_sA0, z_sA1, z_sA2, z_sA3, z_sAA, z_sIA, ↓reduceIte, Nat.reduceEqDiff, Nat.reduceLeDiff, Nat.reduceLT, z_l0, z_l1, z_l2, z_l3, z_l4, z_l5, z_l6, z_l7, z_l8, z_l9, z_l10, z_l11, z_l12, z_l13, z_l14, z_l15, z_l16, z_l17, z_l18, z_l19, z_l20, z_l21, z_l22, z_l23, z_l24, z_l25, z_l26, z_l27, z_l28, z_l32, z_l48, z_l56, z_l57, z_l59, z_l63, z_l64, z_l96, z_l97, z_l122, z_l127, z_l152, z_l158, z_l182, z_l255, z_l256, z_l310, z_l342, z_l406, z_l440, z_l729, z_l800, z_l3960, z_l14336, z_l14592, z_l100000, z_v2]
      · simp (disch := omega) only [z_gt, z_o1, z_o2, z_o3, z_o4, z_o5, z_o6, z_o7, z_o8, z_o9, z_bn, z_jn, nI_add, z_mul, z_sub, z_div, Nat.not_lt_zero, z_cl, z_le, z_lt, z_eq, z_inb, z_nz, z_isB0, z_notJ, z_notI, z_isB1, z_m1, z_pos, z_pos', z_nlt, z_nle', z_m1le, z_m1a, z_nle, z_sI0, z_sI1, z_sI2, z_sI3, z_sJ0, z_sJ1, z_sJ2, z_sJ3, z_sF0, z_sF1, z_sF2, z_sA0, z_sA1, z_sA2, z_sA3, z_sAA, z_sIA, ↓reduceIte, Nat.reduceEqDiff, Nat.reduceLeDiff, Nat.reduceLT, z_l0, z_l1, z_l2, z_l3, z_l4, z_l5, z_l6, z_l7, z_l8, z_l9, z_l10, z_l11, z_l12, z_l13, z_l14, z_l15, z_l16, z_l17, z_l18, z_l19, z_l20, z_l21, z_l22, z_l23, z_l24, z_l25, z_l26, z_l27, z_l28, z_l32, z_l48, z_l56, z_l57, z_l59, z_l63, z_l64, z_l96, z_l97, z_l122, z_l127, z_l152, z_l158, z_l182, z_l255, z_l256, z_l310, z_l342, z_l406, z_l440, z_l729, z_l800, z_l3960, z_l14336, z_l14592, z_l100000, z_v2]
    · simp (disch := omega) only [z_gt, z_o1, z_o2, z_o3, z_o4, z_o5, z_o6, z_o7, z_o8, z_o9, z_bn, z_jn, nI_add, z_mul, z_sub, z_div, Nat.not_lt_zero, z_cl, z_le, z_lt, z_eq, z_inb, z_nz, z_isB0, z_notJ, z_notI, z_isB1, z_m1, z_pos, z_pos', z_nlt, z_nle', z_m1le, z_m1a, z_nle, z_sI0, z_sI1, z_sI2, z_sI3, z_sJ0, z_sJ1, z_sJ2, z_sJ3, z_sF0, z_sF1, z_sF2, z_sA0, z_sA1, z_sA2, z_sA3, z_sAA, z_sIA, ↓reduceIte, Nat.reduceEqDiff, Nat.reduceLeDiff, Nat.reduceLT, z_l0, z_l1, z_l2, z_l3, z_l4, z_l5, z_l6, z_l7, z_l8, z_l9, z_l10, z_l11, z_l12, z_l13, z_l14, z_l15, z_l16, z_l17, z_l18, z_l19, z_l20, z_l21, z_l22, z_l23, z_l24, z_l25, z_l26, z_l27, z_l28, z_l32, z_l48, z_l56, z_l57, z_l59, z_l63, z_l64, z_l96, z_l97, z_l122, z_l127, z_l152, z_l158, z_l182, z_l255, z_l256, z_l310, z_l342, z_l406, z_l440, z_l729, z_l800, z_l3960, z_l14336, z_l14592, z_l100000, z_v1]
      rw [bJ_0]
      simp
theorem lanes_fq : ∀ i, i < 6 → ∀ k, k < 4 → ∀ l, l < 64 → bJ (lanesJ i) l = decide (fq (64 * k + l) i = 1) := by decide +kernel
theorem lanes_hi : ∀ i, i < 2 → ∀ k, k < 4 → ∀ l, l < 64 → bI (nI k) i = decide (fq (64 * k + l) (i + 6) = 1) := by decide +kernel
theorem x_setFullInputs {r : Nat → Int32} (hw : WFc r) {vL : Vs} {k : Nat} (hk : k < 4) : Ok (f_X2_setFullInputs vL (nI (NI r)) (nI k)) (fun v' => ∀ w, w < NI r → LW v' w (fun l => fq (64 * k + l) w)) := by
  have hn := hw.nf
  unfold f_X2_setFullInputs
  refine zl2 (I := fun m x v' => ∃ i, x = nI i ∧ i ≤ NI r ∧ m = NI r - i ∧ ∀ w, w < i → LW v' w (fun l => fq (64 * k + l) w)) ?_ FU (NI r) _ _ (by unfold FU; omega) ⟨0, rfl, by omega, by omega, fun w hw => by omega⟩
  rintro m x v' self ⟨i, rfl, hle, rfl, hz⟩ ih
  unfold f_X2_setFullInputs_L2
  by_cases hb : NI r ≤ i
  · rw [ift hb (by omega)]
    exact ok_some (fun w hw => hz w (by omega))
  · rw [iff_ hb (by omega)]
    have fin : ∀ o : Int64, (∀ l, l < 64 → bJ o l = decide (fq (64 * k + l) i = 1)) → Ok (self (nI (i + 1)) (sJ (sJ v' 1 i o) 0 i (~~~o))) (fun v' => ∀ w, w < NI r → LW v' w (fun l => fq (64 * k + l) w)) := by
      intro o ho
      refine ih _ _ _ (by omega) ⟨i + 1, rfl, by omega, rfl, fun w hw2 => ?_⟩
      by_cases hw3 : w = i
      · subst hw3
        intro l hl
        have h1 := fq_1 (64 * k + l) w
        simp (disch := omega) only [z_gt, z_o1, z_o2, z_o3, z_o4, z_o5, z_o6, z_o7, z_o8, z_o9, z_bn, z_jn, nI_add, z_mul, z_sub, z_div, Nat.not_lt_zero, z_cl, z_le, z_lt, z_eq, z_inb, z_nz, z_isB0, z_notJ, z_notI, z_isB1, z_m1, z_pos, z_pos', z_nlt, z_nle', z_m1le, z_m1a, z_nle, z_sI0, z_sI1, z_sI2, z_sI3, z_sJ0, z_sJ1, z_sJ2, z_sJ3, z_sF0, z_sF1, z_sF2, z_sA0, z_sA1, z_sA2, z_sA3, z_sAA, z_sIA, ↓reduceIte, Nat.reduceEqDiff, Nat.reduceLeDiff, Nat.reduceLT, z_l0, z_l1, z_l2, z_l3, z_l4, z_l5, z_l6, z_l7, z_l8, z_l9, z_l10, z_l11, z_l12, z_l13, z_l14, z_l15, z_l16, z_l17, z_l18, z_l19, z_l20, z_l21, z_l22, z_l23, z_l24, z_l25, z_l26, z_l27, z_l28, z_l32, z_l48, z_l56, z_l57, z_l59, z_l63, z_l64, z_l96, z_l97, z_l122, z_l127, z_l152, z_l158, z_l182, z_l255, z_l256, z_l310, z_l342, z_l406, z_l440, z_l729, z_l800, z_l3960, z_l14336, z_l14592, z_l100000, z_v1]
        rw [bJ_not _ hl, ho l hl]
        have kk : ∀ a, a < 2 → (!decide (a = 1)) = decide (a = 0) ∧ decide (a = 1) = decide (a = 1) := by decide
        exact kk (fq (64 * k + l) w) (by omega)
      · refine (hz w (by omega)).same ?_ ?_
        · simp (disch := omega) only [z_gt, z_o1, z_o2, z_o3, z_o4, z_o5, z_o6, z_o7, z_o8, z_o9, z_bn, z_jn, nI_add, z_mul, z_sub, z_div, Nat.not_lt_zero, z_cl, z_le, z_lt, z_eq, z_inb, z_nz, z_isB0, z_notJ, z_notI, z_isB1, z_m1, z_pos, z_pos', z_nlt, z_nle', z_m1le, z_m1a, z_nle, z_sI0, z_sI1, z_sI2, z_sI3, z_sJ0, z_sJ1, z_sJ2, z_sJ3, z_sF0, z_sF1, z_sF2, z_sA0, z_sA1, z_sA2, z_sA3, z_sAA, z_sIA, ↓reduceIte, Nat.reduceEqDiff, Nat.reduceLeDiff, Nat.reduceLT, z_l0, z_l1, z_l2, z_l3, z_l4, z_l5, z_l6, z_l7, z_l8, z_l9, z_l10, z_l11, z_l12, z_l13, z_l14, z_l15, z_l16, z_l17, z_l18, z_l19, z_l20, z_l21, z_l22, z_l23, z_l24, z_l25, z_l26, z_l27, z_l28, z_l32, z_l48, z_l56, z_l57, z_l59, z_l63, z_l64, z_l96, z_l97, z_l122, z_l127, z_l152, z_l158, z_l182, z_l255, z_l256, z_l310, z_l342, z_l406, z_l440, z_l729, z_l800, z_l3960, z_l14336, z_l14592, z_l100000, z_v2]
        · simp (disch := omega) only [z_gt, z_o1, z_o2, z_o3, z_o4, z_o5, z_o6, z_o7, z_o8, z_o9, z_bn, z_jn, nI_add, z_mul, z_sub, z_div, Nat.not_lt_zero, z_cl, z_le, z_lt, z_eq, z_inb, z_nz, z_isB0, z_notJ, z_notI, z_isB1, z_m1, z_pos, z_pos', z_nlt, z_nle', z_m1le, z_m1a, z_nle, z_sI0, z_sI1, z_sI2, z_sI3, z_sJ0, z_sJ1, z_sJ2, z_sJ3, z_sF0, z_sF1, z_sF2, z_sA0, z_sA1, z_sA2, z_sA3, z_sAA, z_sIA, ↓reduceIte, Nat.reduceEqDiff, Nat.reduceLeDiff, Nat.reduceLT, z_l0, z_l1, z_l2, z_l3, z_l4, z_l5, z_l6, z_l7, z_l8, z_l9, z_l10, z_l11, z_l12, z_l13, z_l14, z_l15, z_l16, z_l17, z_l18, z_l19, z_l20, z_l21, z_l22, z_l23, z_l24, z_l25, z_l26, z_l27, z_l28, z_l32, z_l48, z_l56, z_l57, z_l59, z_l63, z_l64, z_l96, z_l97, z_l122, z_l127, z_l152, z_l158, z_l182, z_l255, z_l256, z_l310, z_l342, z_l406, z_l440, z_l729, z_l800, z_l3960, z_l14336, z_l14592, z_l100000, z_v2]
    by_cases h6 : 6 ≤ i
    · have hh := x_hasBit (nI k) (k := i - 6) (by omega)
      have hb6 := fun l hl => lanes_hi (i - 6) (by omega) k hk l hl
      rw [show i - 6 + 6 = i by omega] at hb6
      by_cases hbit : bI (nI k) (i - 6) = true
      · rw [if_pos hbit] at hh
        simp (disch := omega) only [z_gt, z_o1, z_o2, z_o3, z_o4, z_o5, z_o6, z_o7, z_o8, z_o9, z_bn, z_jn, nI_add, z_mul, z_sub, z_div, Nat.not_lt_zero, z_cl, z_le, z_lt, z_eq, z_inb, z_nz, z_isB0, z_notJ, z_notI, z_isB1, z_m1, z_pos, z_pos', z_nlt, z_nle', z_m1le, z_m1a, z_nle, z_sI0, z_sI1, z_sI2, z_sI3, z_sJ0, z_sJ1, z_sJ2, z_sJ3, z_sF0, z_sF1, z_sF2, z_sA0, z_sA1, z_sA2, z_sA3, z_sAA, z_sIA, ↓reduceIte, Nat.reduceEqDiff, Nat.reduceLeDiff, Nat.reduceLT, z_l0, z_l1, z_l2, z_l3, z_l4, z_l5, z_l6, z_l7, z_l8, z_l9, z_l10, z_l11, z_l12, z_l13, z_l14, z_l15, z_l16, z_l17, z_l18, z_l19, z_l20, z_l21, z_l22, z_l23, z_l24, z_l25, z_l26, z_l27, z_l28, z_l32, z_l48, z_l56, z_l57, z_l59, z_l63, z_l64, z_l96, z_l97, z_l122, z_l127, z_l152, z_l158, z_l182, z_l255, z_l256, z_l310, z_l342, z_l406, z_l440, z_l729, z_l800, z_l3960, z_l14336, z_l14592, z_l100000, h6, hh, z_v1]
        refine fin _ (fun l hl => ?_)
        rw [← hb6 l hl, hbit]
        show (-1 : Int64).toBitVec.getLsbD l = true
        have e : (-1 : Int64).toBitVec = BitVec.allOnes 64 := by decide
        rw [e, BitVec.getLsbD_allOnes]
        simp [hl]
      · rw [if_neg hbit] at hh
        simp (disch := omega) only [z_gt, z_o1, z_o2, z_o3, z_o4, z_o5, z_o6, z_o7, z_o8, z_o9, z_bn, z_jn, nI_add, z_mul, z_sub, z_div, Nat.not_lt_zero, z_cl, z_le, z_lt, z_eq, z_inb, z_nz, z_isB0, z_notJ, z_notI, z_isB1, z_m1, z_pos, z_pos', z_nlt, z_nle', z_m1le, z_m1a, z_nle, z_sI0, z_sI1, z_sI2, z_sI3, z_sJ0, z_sJ1, z_sJ2, z_sJ3, z_sF0, z_sF1, z_sF2, z_sA0, z_sA1, z_sA2, z_sA3, z_sAA, z_sIA, ↓reduceIte, Nat.reduceEqDiff, Nat.reduceLeDiff, Nat.reduceLT, z_l0, z_l1, z_l2, z_l3, z_l4, z_l5, z_l6, z_l7, z_l8, z_l9, z_l10, z_l11, z_l12, z_l13, z_l14, z_l15, z_l16, z_l17, z_l18, z_l19, z_l20, z_l21, z_l22, z_l23, z_l24, z_l25, z_l26, z_l27, z_l28, z_l32, z_l48, z_l56, z_l57, z_l59, z_l63, z_l64, z_l96, z_l97, z_l122, z_l127, z_l152, z_l158, z_l182, z_l255, z_l256, z_l310, z_l342, z_l406, z_l440, z_l729, z_l800, z_l3960, z_l14336, z_l14592, z_l100000, h6, hh, z_v1]
        refine fin _ (fun l hl => ?_)
        rw [← hb6 l hl, bJ_0]
        simpa using hbit
    · simp (disch := omega) only [z_gt, z_o1, z_o2, z_o3, z_o4, z_o5, z_o6, z_o7, z_o8, z_o9, z_bn, z_jn, nI_add, z_mul, z_sub, z_div, Nat.not_lt_zero, z_cl, z_le, z_lt, z_eq, z_inb, z_nz, z_isB0, z_notJ, z_notI, z_isB1, z_m1, z_pos, z_pos', z_nlt, z_nle', z_m1le, z_m1a, z_nle, z_sI0, z_sI1, z_sI2, z_sI3, z_sJ0, z_sJ1, z_sJ2, z_sJ3, z_sF0, z_sF1, z_sF2, z_sA0, z_sA1, z_sA2, z_sA3, z_sAA, z_sIA, ↓reduceIte, Nat.reduceEqDiff, Nat.reduceLeDiff, Nat.reduceLT, z_l0, z_l1, z_l2, z_l3, z_l4, z_l5, z_l6, z_l7, z_l8, z_l9, z_l10, z_l11, z_l12, z_l13, z_l14, z_l15, z_l16, z_l17, z_l18, z_l19, z_l20, z_l21, z_l22, z_l23, z_l24, z_l25, z_l26, z_l27, z_l28, z_l32, z_l48, z_l56, z_l57, z_l59, z_l63, z_l64, z_l96, z_l97, z_l122, z_l127, z_l152, z_l158, z_l182, z_l255, z_l256, z_l310, z_l342, z_l406, z_l440, z_l729, z_l800, z_l3960, z_l14336, z_l14592, z_l100000, h6, z_v1]
      exact fin _ (fun l hl => lanes_fq i (by omega) k hk l hl)
def TR (r : Nat → Int32) (vR vG : Vs) : Prop := RW r vR 1 0 (tq r) ∧ ∀ w, w < NW r → LW vG w (fun l => good r (tq r l) w)
def fwords (r : Nat → Int32) : Nat := if NI r ≤ 6 then 1 else 2 ^ (NI r - 6)
theorem fwords_4 {r : Nat → Int32} (hw : WFc r) : 1 ≤ fwords r ∧ fwords r ≤ 4 ∧ (2 ^ NI r ≤ 64 * fwords r) ∧ (6 ≤ NI r → 2 ^ NI r = 64 * fwords r) := by
  have hn := hw.nf
  have h0 : NI r = 0 ∨ NI r = 1 ∨ NI r = 2 ∨ NI r = 3 ∨ NI r = 4 ∨ NI r = 5 ∨ NI r = 6 ∨ NI r = 7 ∨ NI r = 8 := by omega
  unfold fwords
  rcases h0 with q | q | q | q | q | q | q | q | q <;> rw [q] <;> decide
def FR (r : Nat → Int32) (vR : Vs) : Prop := ∀ k, k < fwords r → RW r vR 4 k (fun l => fq (64 * k + l))
theorem x_fullWords {r : Nat → Int32} (hw : WFc r) {vC : Vs} (hC : RC r vC) : f_X0_fullWords vC = some (nI (fwords r)) := by
  have hn := hw.nf
  unfold f_X0_fullWords fwords
  rw [hC.1.1]
  have h0 : NI r = 0 ∨ NI r = 1 ∨ NI r = 2 ∨ NI r = 3 ∨ NI r = 4 ∨ NI r = 5 ∨ NI r = 6 ∨ NI r = 7 ∨ NI r = 8 := by omega
  rcases h0 with q | q | q | q | q | q | q | q | q <;> rw [q] <;> rfl
theorem x_refreshTest {r : Nat → Int32} (hw : WFc r) (ht : WFt r) {vF vC vT vRT vG vB : Vs} (hC : RC r vC) (hT : RT r vT) (h4 : vRT.1 4 = nI 1) (hF : vF.1 6 ≠ 0 → TR r vRT vG) :
    Ok (f_X7_refreshTestRows vF vC vT 342 vRT vG vB) (fun q => q.1.2 = vF.2 ∧ (∀ j, j ≠ 6 → q.1.1 j = vF.1 j) ∧ q.1.1 6 ≠ 0 ∧ TR r q.2.1 q.2.2.1 ∧ q.2.1.1 4 = nI 1) := by
  unfold f_X7_refreshTestRows
  by_cases h0 : vF.1 6 = 0
  · rw [if_pos h0, hC.1.1]
    refine ok_o1 (x_setTestInputs hw ht hT) ?_
    intro vG1 hG1
    refine ok_o3 (x_work hw (W := 1) (Or.inl rfl) hC h4 (ask := tq r) (fun l i hi => tq_2 ht l i hi) hG1 (k := 0) (by omega)) ?_
    rintro vR2 vG2 vB2 ⟨t1, t2, -, t3⟩
    refine ok_bn ?_
    refine ok_some ⟨rfl, fun j hj => ?_, ?_, ⟨t2, t3⟩, t1 ▸ h4⟩
    · show (sF vF 6 1).1 j = _
      rw [z_sF2 _ _ _ hj]
    · show (sF vF 6 1).1 6 ≠ 0
      rw [z_sF1]
      decide
  · rw [if_neg h0]
    exact ok_some ⟨rfl, fun j _ => rfl, h0, hF h0, h4⟩
theorem x_refreshFull {r : Nat → Int32} (hw : WFc r) {vF vC vRF vGF vBF : Vs} (hC : RC r vC) (h4 : vRF.1 4 = nI 4) (hF : vF.1 5 ≠ 0 → FR r vRF) :
    Ok (f_X7_refreshFullRows vF vC 1368 vRF vGF vBF) (fun q => q.1.2 = vF.2 ∧ (∀ j, j ≠ 5 → q.1.1 j = vF.1 j) ∧ q.1.1 5 ≠ 0 ∧ FR r q.2.1 ∧ q.2.1.1 4 = nI 4) := by
  have hfw := fwords_4 hw
  unfold f_X7_refreshFullRows
  by_cases h0 : vF.1 5 = 0
  · rw [if_pos h0]
    refine ok_o1e (x_fullWords hw hC) ?_
    refine zl4 (I := fun m x vr vg vb => ∃ k, x = nI k ∧ k ≤ fwords r ∧ m = fwords r - k ∧ vr.1 4 = nI 4 ∧ ∀ k', k' < k → RW r vr 4 k' (fun l => fq (64 * k' + l))) ?_ FU (fwords r) _ _ _ _ (by unfold FU; omega) ⟨0, rfl, by omega, by omega, h4, fun w hw => by omega⟩
    rintro m x vr vg vb self ⟨k, rfl, hle, rfl, h4', hz⟩ ih
    unfold f_X7_refreshFullRows_L21
    by_cases hb : fwords r ≤ k
    · rw [ift hb (by omega)]
      refine ok_bn ?_
      refine ok_some ⟨rfl, fun j hj => ?_, ?_, fun k' hk' => hz k' (by omega), h4'⟩
      · show (sF vF 5 1).1 j = _
        rw [z_sF2 _ _ _ hj]
      · show (sF vF 5 1).1 5 ≠ 0
        rw [z_sF1]
        decide
    · rw [iff_ hb (by omega), hC.1.1]
      refine ok_o1 (x_setFullInputs hw (k := k) (by omega)) ?_
      intro vg1 hG1
      refine ok_o3 (x_work hw (W := 4) (Or.inr rfl) hC h4' (ask := fun l => fq (64 * k + l)) (fun l i _ => by have := fq_1 (64 * k + l) i; omega) hG1 (k := k) (by omega)) ?_
      rintro vR2 vG2 vB2 ⟨t1, t2, t3, -⟩
      rw [z_l1, nI_add]
      refine ih _ _ _ _ _ (by omega) ⟨k + 1, rfl, by omega, rfl, t1 ▸ h4', fun k' hk' => ?_⟩
      by_cases hk2 : k' = k
      · subst hk2
        exact t2
      · exact t3 _ k' (by omega) hk2 (hz k' (by omega))
  · rw [if_neg h0]
    exact ok_some ⟨rfl, fun j _ => rfl, h0, hF h0, h4⟩
