/-! kinds of gates, on both sides; what a number says of a wire -/
def kwI (B : Nat → Nat) (M s : Nat) : Int32 := if isW B M s 1 = true then nI 0 else if isW B M s 16 = true then nI 1 else if isW B M s 9 = true then nI 2 else if isW B M s 11 = true then nI 3 else if isW B M s 25 = true then nI 4 else if isW B M s 24 = true then nI 5 else if isW B M s 12 = true then nI 6 else if isW B M s 3 = true then nI 7 else if isW B M s 8 = true then nI 8 else im1
theorem kwI_or (B : Nat → Nat) (M s : Nat) : kwI B M s = im1 ∨ ∃ k, k < 9 ∧ kwI B M s = nI k := by
  unfold kwI
  by_cases c0 : isW B M s 1 = true
  · rw [if_pos c0]; exact Or.inr ⟨0, by omega, rfl⟩
  rw [if_neg c0]
  by_cases c1 : isW B M s 16 = true
  · rw [if_pos c1]; exact Or.inr ⟨1, by omega, rfl⟩
  rw [if_neg c1]
  by_cases c2 : isW B M s 9 = true
  · rw [if_pos c2]; exact Or.inr ⟨2, by omega, rfl⟩
  rw [if_neg c2]
  by_cases c3 : isW B M s 11 = true
  · rw [if_pos c3]; exact Or.inr ⟨3, by omega, rfl⟩
  rw [if_neg c3]
  by_cases c4 : isW B M s 25 = true
  · rw [if_pos c4]; exact Or.inr ⟨4, by omega, rfl⟩
  rw [if_neg c4]
  by_cases c5 : isW B M s 24 = true
  · rw [if_pos c5]; exact Or.inr ⟨5, by omega, rfl⟩
  rw [if_neg c5]
  by_cases c6 : isW B M s 12 = true
  · rw [if_pos c6]; exact Or.inr ⟨6, by omega, rfl⟩
  rw [if_neg c6]
  by_cases c7 : isW B M s 3 = true
  · rw [if_pos c7]; exact Or.inr ⟨7, by omega, rfl⟩
  rw [if_neg c7]
  by_cases c8 : isW B M s 8 = true
  · rw [if_pos c8]; exact Or.inr ⟨8, by omega, rfl⟩
  rw [if_neg c8]
  exact Or.inl rfl
theorem kstep {α : Type} {x : Option Int32} {b : Bool} (e : x = some (nI (if b = true then 1 else 0))) (P Q : Option α) : o1 x (fun r => if r = 0 then P else Q) = if b = true then Q else P := by
  rw [e, z_o1]
  cases b
  · rfl
  · rfl
theorem CH.kind {B : Nat → Nat} {M s : Nat} {v : Vs} (h : CH B M s v) (hs : s ≤ M) : f_X5_kindOfWord v = some (kwI B M s) := by
  have e := fun i (hi : i ∈ WS) => x_isWord h.1 h.2.1 hs hi
  unfold f_X5_kindOfWord kwI
  rw [kstep (e 1 (by decide))]
  by_cases c0 : isW B M s 1 = true
  · rw [if_pos c0, if_pos c0]; rfl
  rw [if_neg c0, if_neg c0]
  rw [kstep (e 16 (by decide))]
  by_cases c1 : isW B M s 16 = true
  · rw [if_pos c1, if_pos c1]; rfl
  rw [if_neg c1, if_neg c1]
  rw [kstep (e 9 (by decide))]
  by_cases c2 : isW B M s 9 = true
  · rw [if_pos c2, if_pos c2]; rfl
  rw [if_neg c2, if_neg c2]
  rw [kstep (e 11 (by decide))]
  by_cases c3 : isW B M s 11 = true
  · rw [if_pos c3, if_pos c3]; rfl
  rw [if_neg c3, if_neg c3]
  rw [kstep (e 25 (by decide))]
  by_cases c4 : isW B M s 25 = true
  · rw [if_pos c4, if_pos c4]; rfl
  rw [if_neg c4, if_neg c4]
  rw [kstep (e 24 (by decide))]
  by_cases c5 : isW B M s 24 = true
  · rw [if_pos c5, if_pos c5]; rfl
  rw [if_neg c5, if_neg c5]
  rw [kstep (e 12 (by decide))]
  by_cases c6 : isW B M s 12 = true
  · rw [if_pos c6, if_pos c6]; rfl
  rw [if_neg c6, if_neg c6]
  rw [kstep (e 3 (by decide))]
  by_cases c7 : isW B M s 3 = true
  · rw [if_pos c7, if_pos c7]; rfl
  rw [if_neg c7, if_neg c7]
  rw [e 8 (by decide), z_o1, z_jn]
  by_cases c8 : isW B M s 8 = true
  · rw [if_pos c8, if_pos c8]; rfl
  · rw [if_neg c8, if_neg c8]; rfl
theorem MH.kind {B : Nat → Nat} {M a : Nat} {v0 v : Vs} {q : Nat → Int32} (h : MH B M v0 q a v) : ∃ v', f_X8_kindHere v = some (kwI B M (rn isSp B M a), v') ∧ MH B M v0 q (if kwI B M (rn isSp B M a) = im1 then rn isSp B M a else tend B M (rn isSp B M a)) v' := by
  unfold f_X8_kindHere
  obtain ⟨v1, e0, M0, -⟩ := h.takes (i := 1) (by decide)
  by_cases c0 : isW B M (rn isSp B M a) 1 = true
  · rw [if_pos c0] at e0 M0
    have hk : kwI B M (rn isSp B M a) = nI 0 := by
      unfold kwI
      rw [if_pos c0]
    refine ⟨v1, ?_, ?_⟩
    · rw [hk]
      simp (disch := omega) only [z_gt, z_o1, z_o2, z_o3, z_o4, z_o5, z_o6, z_o7, z_o8, z_o9, z_bn, z_jn, nI_add, z_mul, z_sub, z_div, Nat.not_lt_zero, z_cl, z_le, z_lt, z_eq, z_inb, z_nz, z_isB0, z_notJ, z_notI, z_isB1, z_m1, z_pos, z_pos', z_nlt, z_nle', z_m1le, z_m1a, z_nle, z_sI0, z_sI1, z_sI2, z_sI3, z_sJ0, z_sJ1, z_sJ2, z_sJ3, z_sF0, z_sF1, z_sF2, z_sA0, z_sA1, z_sA2, z_sA3, z_sAA, z_sIA, ↓reduceIte, Nat.reduceEqDiff, Nat.reduceLeDiff, Nat.reduceLT, z_l0, z_l1, z_l2, z_l3, z_l4, z_l5, z_l6, z_l7, z_l8, z_l9, z_l10, z_l11, z_l12, z_l13, z_l14, z_l15, z_l16, z_l17, z_l18, z_l19, z_l20, z_l21, z_l22, z_l23, z_l24, z_l25, z_l26, z_l27, z_l28, z_l32, z_l48, z_l56, z_l57, z_l59, z_l63, z_l64, z_l96, z_l97, z_l122, z_l127, z_l152, z_l158, z_l182, z_l255, z_l256, z_l310, z_l342, z_l406, z_l440, z_l729, z_l800, z_l3960, z_l14336, z_l14592, z_l100000, e0]
    · rw [hk, if_neg (by decide)]
      exact M0
  rw [if_neg c0] at e0 M0
  obtain ⟨v2, e1, M1, -⟩ := M0.takes (i := 16) (by decide)
  rw [rn_rn] at e1 M1
  by_cases c1 : isW B M (rn isSp B M a) 16 = true
  · rw [if_pos c1] at e1 M1
    have hk : kwI B M (rn isSp B M a) = nI 1 := by
      unfold kwI
      rw [if_neg c0, if_pos c1]
    refine ⟨v2, ?_, ?_⟩
    · rw [hk]
      simp (disch := omega) only [z_gt, z_o1, z_o2, z_o3, z_o4, z_o5, z_o6, z_o7, z_o8, z_o9, z_bn, z_jn, nI_add, z_mul, z_sub, z_div, Nat.not_lt_zero, z_cl, z_le, z_lt, z_eq, z_inb, z_nz, z_isB0, z_notJ, z_notI, z_isB1, z_m1, z_pos, z_pos', z_nlt, z_nle', z_m1le, z_m1a, z_nle, z_sI0, z_sI1, z_sI2, z_sI3, z_sJ0, z_sJ1, z_sJ2, z_sJ3, z_sF0, z_sF1, z_sF2, z_sA0, z_sA1, z_sA2, z_sA3, z_sAA, z_sIA, ↓reduceIte, Nat.reduceEqDiff, Nat.reduceLeDiff, Nat.reduceLT, z_l0, z_l1, z_l2, z_l3, z_l4, z_l5, z_l6, z_l7, z_l8, z_l9, z_l10, z_l11, z_l12, z_l13, z_l14, z_l15, z_l16, z_l17, z_l18, z_l19, z_l20, z_l21, z_l22, z_l23, z_l24, z_l25, z_l26, z_l27, z_l28, z_l32, z_l48, z_l56, z_l57, z_l59, z_l63, z_l64, z_l96, z_l97, z_l122, z_l127, z_l152, z_l158, z_l182, z_l255, z_l256, z_l310, z_l342, z_l406, z_l440, z_l729, z_l800, z_l3960, z_l14336, z_l14592, z_l100000, e0, e1]
    · rw [hk, if_neg (by decide)]
      exact M1
  rw [if_neg c1] at e1 M1
  obtain ⟨v3, e2, M2, -⟩ := M1.takes (i := 9) (by decide)
  rw [rn_rn] at e2 M2
  by_cases c2 : isW B M (rn isSp B M a) 9 = true
  · rw [if_pos c2] at e2 M2
    have hk : kwI B M (rn isSp B M a) = nI 2 := by
      unfold kwI
      rw [if_neg c0, if_neg c1, if_pos c2]
    refine ⟨v3, ?_, ?_⟩
    · rw [hk]
      simp (disch := omega) only [z_gt, z_o1, z_o2, z_o3, z_o4, z_o5, z_o6, z_o7, z_o8, z_o9, z_bn, z_jn, nI_add, z_mul, z_sub, z_div, Nat.not_lt_zero, z_cl, z_le, z_lt, z_eq, z_inb, z_nz, z_isB0, z_notJ, z_notI, z_isB1, z_m1, z_pos, z_pos', z_nlt, z_nle', z_m1le, z_m1a, z_nle, z_sI0, z_sI1, z_sI2, z_sI3, z_sJ0, z_sJ1, z_sJ2, z_sJ3, z_sF0, z_sF1, z_sF2, z_sA0, z_sA1, z_sA2, z_sA3, z_sAA, z_sIA, ↓reduceIte, Nat.reduceEqDiff, Nat.reduceLeDiff, Nat.reduceLT, z_l0, z_l1, z_l2, z_l3, z_l4, z_l5, z_l6, z_l7, z_l8, z_l9, z_l10, z_l11, z_l12, z_l13, z_l14, z_l15, z_l16, z_l17, z_l18, z_l19, z_l20, z_l21, z_l22, z_l23, z_l24, z_l25, z_l26, z_l27, z_l28, z_l32, z_l48, z_l56, z_l57, z_l59, z_l63, z_l64, z_l96, z_l97, z_l122, z_l127, z_l152, z_l158, z_l182, z_l255, z_l256, z_l310, z_l342, z_l406, z_l440, z_l729, z_l800, z_l3960, z_l14336, z_l14592, z_l100000, e0, e1, e2]
    · rw [hk, if_neg (by decide)]
      exact M2
  rw [if_neg c2] at e2 M2
  obtain ⟨v4, e3, M3, -⟩ := M2.takes (i := 11) (by decide)
  rw [rn_rn] at e3 M3
  by_cases c3 : isW B M (rn isSp B M a) 11 = true
  · rw [if_pos c3] at e3 M3
    have hk : kwI B M (rn isSp B M a) = nI 3 := by
      unfold kwI
      rw [if_neg c0, if_neg c1, if_neg c2, if_pos c3]
    refine ⟨v4, ?_, ?_⟩
    · rw [hk]
      simp (disch := omega) only [z_gt, z_o1, z_o2, z_o3, z_o4, z_o5, z_o6, z_o7, z_o8, z_o9, z_bn, z_jn, nI_add, z_mul, z_sub, z_div, Nat.not_lt_zero, z_cl, z_le, z_lt, z_eq, z_inb, z_nz, z_isB0, z_notJ, z_notI, z_isB1, z_m1, z_pos, z_pos', z_nlt, z_nle', z_m1le, z_m1a, z_nle, z_sI0, z_sI1, z_sI2, z_sI3, z_sJ0, z_sJ1, z_sJ2, z_sJ3, z_sF0, z_sF1, z_sF2, z_sA0, z_sA1, z_sA2, z_sA3, z_sAA, z_sIA, ↓reduceIte, Nat.reduceEqDiff, Nat.reduceLeDiff, Nat.reduceLT, z_l0, z_l1, z_l2, z_l3, z_l4, z_l5, z_l6, z_l7, z_l8, z_l9, z_l10, z_l11, z_l12, z_l13, z_l14, z_l15, z_l16, z_l17, z_l18, z_l19, z_l20, z_l21, z_l22, z_l23, z_l24, z_l25, z_l26, z_l27, z_l28, z_l32, z_l48, z_l56, z_l57, z_l59, z_l63, z_l64, z_l96, z_l97, z_l122, z_l127, z_l152, z_l158, z_l182, z_l255, z_l256, z_l310, z_l342, z_l406, z_l440, z_l729, z_l800, z_l3960, z_l14336, z_l14592, z_l100000, e0, e1, e2, e3]
    · rw [hk, if_neg (by decide)]
      exact M3
  rw [if_neg c3] at e3 M3
  obtain ⟨v5, e4, M4, -⟩ := M3.takes (i := 25) (by decide)
  rw [rn_rn] at e4 M4
  by_cases c4 : isW B M (rn isSp B M a) 25 = true
  · rw [if_pos c4] at e4 M4
    have hk : kwI B M (rn isSp B M a) = nI 4 := by
      unfold kwI
      rw [if_neg c0, if_neg c1, if_neg c2, if_neg c3, if_pos c4]
    refine ⟨v5, ?_, ?_⟩
    · rw [hk]
      simp (disch := omega) only [z_gt, z_o1, z_o2, z_o3, z_o4, z_o5, z_o6, z_o7, z_o8, z_o9, z_bn, z_jn, nI_add, z_mul, z_sub, z_div, Nat.not_lt_zero, z_cl, z_le, z_lt, z_eq, z_inb, z_nz, z_isB0, z_notJ, z_notI, z_isB1, z_m1, z_pos, z_pos', z_nlt, z_nle', z_m1le, z_m1a, z_nle, z_sI0, z_sI1, z_sI2, z_sI3, z_sJ0, z_sJ1, z_sJ2, z_sJ3, z_sF0, z_sF1, z_sF2, z_sA0, z_sA1, z_sA2, z_sA3, z_sAA, z_sIA, ↓reduceIte, Nat.reduceEqDiff, Nat.reduceLeDiff, Nat.reduceLT, z_l0, z_l1, z_l2, z_l3, z_l4, z_l5, z_l6, z_l7, z_l8, z_l9, z_l10, z_l11, z_l12, z_l13, z_l14, z_l15, z_l16, z_l17, z_l18, z_l19, z_l20, z_l21, z_l22, z_l23, z_l24, z_l25, z_l26, z_l27, z_l28, z_l32, z_l48, z_l56, z_l57, z_l59, z_l63, z_l64, z_l96, z_l97, z_l122, z_l127, z_l152, z_l158, z_l182, z_l255, z_l256, z_l310, z_l342, z_l406, z_l440, z_l729, z_l800, z_l3960, z_l14336, z_l14592, z_l100000, e0, e1, e2, e3, e4]
    · rw [hk, if_neg (by decide)]
      exact M4
  rw [if_neg c4] at e4 M4
  obtain ⟨v6, e5, M5, -⟩ := M4.takes (i := 24) (by decide)
  rw [rn_rn] at e5 M5
  by_cases c5 : isW B M (rn isSp B M a) 24 = true
  · rw [if_pos c5] at e5 M5
    have hk : kwI B M (rn isSp B M a) = nI 5 := by
      unfold kwI
      rw [if_neg c0, if_neg c1, if_neg c2, if_neg c3, if_neg c4, if_pos c5]
    refine ⟨v6, ?_, ?_⟩
    · rw [hk]
      simp (disch := omega) only [z_gt, z_o1, z_o2, z_o3, z_o4, z_o5, z_o6, z_o7, z_o8, z_o9, z_bn, z_jn, nI_add, z_mul, z_sub, z_div, Nat.not_lt_zero, z_cl, z_le, z_lt, z_eq, z_inb, z_nz, z_isB0, z_notJ, z_notI, z_isB1, z_m1, z_pos, z_pos', z_nlt, z_nle', z_m1le, z_m1a, z_nle, z_sI0, z_sI1, z_sI2, z_sI3, z_sJ0, z_sJ1, z_sJ2, z_sJ3, z_sF0, z_sF1, z_sF2, z_sA0, z_sA1, z_sA2, z_sA3, z_sAA, z_sIA, ↓reduceIte, Nat.reduceEqDiff, Nat.reduceLeDiff, Nat.reduceLT, z_l0, z_l1, z_l2, z_l3, z_l4, z_l5, z_l6, z_l7, z_l8, z_l9, z_l10, z_l11, z_l12, z_l13, z_l14, z_l15, z_l16, z_l17, z_l18, z_l19, z_l20, z_l21, z_l22, z_l23, z_l24, z_l25, z_l26, z_l27, z_l28, z_l32, z_l48, z_l56, z_l57, z_l59, z_l63, z_l64, z_l96, z_l97, z_l122, z_l127, z_l152, z_l158, z_l182, z_l255, z_l256, z_l310, z_l342, z_l406, z_l440, z_l729, z_l800, z_l3960, z_l14336, z_l14592, z_l100000, e0, e1, e2, e3, e4, e5]
    · rw [hk, if_neg (by decide)]
      exact M5
  rw [if_neg c5] at e5 M5
  obtain ⟨v7, e6, M6, -⟩ := M5.takes (i := 12) (by decide)
  rw [rn_rn] at e6 M6
  by_cases c6 : isW B M (rn isSp B M a) 12 = true
  · rw [if_pos c6] at e6 M6
    have hk : kwI B M (rn isSp B M a) = nI 6 := by
      unfold kwI
      rw [if_neg c0, if_neg c1, if_neg c2, if_neg c3, if_neg c4, if_neg c5, if_pos c6]
    refine ⟨v7, ?_, ?_⟩
    · rw [hk]
      simp (disch := omega) only [z_gt, z_o1, z_o2, z_o3, z_o4, z_o5, z_o6, z_o7, z_o8, z_o9, z_bn, z_jn, nI_add, z_mul, z_sub, z_div, Nat.not_lt_zero, z_cl, z_le, z_lt, z_eq, z_inb, z_nz, z_isB0, z_notJ, z_notI, z_isB1, z_m1, z_pos, z_pos', z_nlt, z_nle', z_m1le, z_m1a, z_nle, z_sI0, z_sI1, z_sI2, z_sI3, z_sJ0, z_sJ1, z_sJ2, z_sJ3, z_sF0, z_sF1, z_sF2, z_sA0, z_sA1, z_sA2, z_sA3, z_sAA, z_sIA, ↓reduceIte, Nat.reduceEqDiff, Nat.reduceLeDiff, Nat.reduceLT, z_l0, z_l1, z_l2, z_l3, z_l4, z_l5, z_l6, z_l7, z_l8, z_l9, z_l10, z_l11, z_l12, z_l13, z_l14, z_l15, z_l16, z_l17, z_l18, z_l19, z_l20, z_l21, z_l22, z_l23, z_l24, z_l25, z_l26, z_l27, z_l28, z_l32, z_l48, z_l56, z_l57, z_l59, z_l63, z_l64, z_l96, z_l97, z_l122, z_l127, z_l152, z_l158, z_l182, z_l255, z_l256, z_l310, z_l342, z_l406, z_l440, z_l729, z_l800, z_l3960, z_l14336, z_l14592, z_l100000, e0, e1, e2, e3, e4, e5, e6]
    · rw [hk, if_neg (by decide)]
      exact M6
  rw [if_neg c6] at e6 M6
  obtain ⟨v8, e7, M7, -⟩ := M6.takes (i := 3) (by decide)
  rw [rn_rn] at e7 M7
  by_cases c7 : isW B M (rn isSp B M a) 3 = true
  · rw [if_pos c7] at e7 M7
    have hk : kwI B M (rn isSp B M a) = nI 7 := by
      unfold kwI
      rw [if_neg c0, if_neg c1, if_neg c2, if_neg c3, if_neg c4, if_neg c5, if_neg c6, if_pos c7]
    refine ⟨v8, ?_, ?_⟩
    · rw [hk]
      simp (disch := omega) only [z_gt, z_o1, z_o2, z_o3, z_o4, z_o5, z_o6, z_o7, z_o8, z_o9, z_bn, z_jn, nI_add, z_mul, z_sub, z_div, Nat.not_lt_zero, z_cl, z_le, z_lt, z_eq, z_inb, z_nz, z_isB0, z_notJ, z_notI, z_isB1, z_m1, z_pos, z_pos', z_nlt, z_nle', z_m1le, z_m1a, z_nle, z_sI0, z_sI1, z_sI2, z_sI3, z_sJ0, z_sJ1, z_sJ2, z_sJ3, z_sF0, z_sF1, z_sF2, z_sA0, z_sA1, z_sA2, z_sA3, z_sAA, z_sIA, ↓reduceIte, Nat.reduceEqDiff, Nat.reduceLeDiff, Nat.reduceLT, z_l0, z_l1, z_l2, z_l3, z_l4, z_l5, z_l6, z_l7, z_l8, z_l9, z_l10, z_l11, z_l12, z_l13, z_l14, z_l15, z_l16, z_l17, z_l18, z_l19, z_l20, z_l21, z_l22, z_l23, z_l24, z_l25, z_l26, z_l27, z_l28, z_l32, z_l48, z_l56, z_l57, z_l59, z_l63, z_l64, z_l96, z_l97, z_l122, z_l127, z_l152, z_l158, z_l182, z_l255, z_l256, z_l310, z_l342, z_l406, z_l440, z_l729, z_l800, z_l3960, z_l14336, z_l14592, z_l100000, e0, e1, e2, e3, e4, e5, e6, e7]
    · rw [hk, if_neg (by decide)]
      exact M7
  rw [if_neg c7] at e7 M7
  obtain ⟨v9, e8, M8, -⟩ := M7.takes (i := 8) (by decide)
  rw [rn_rn] at e8 M8
  by_cases c8 : isW B M (rn isSp B M a) 8 = true
  · rw [if_pos c8] at e8 M8
    have hk : kwI B M (rn isSp B M a) = nI 8 := by
      unfold kwI
      rw [if_neg c0, if_neg c1, if_neg c2, if_neg c3, if_neg c4, if_neg c5, if_neg c6, if_neg c7, if_pos c8]
    refine ⟨v9, ?_, ?_⟩
    · rw [hk]
      simp (disch := omega) only [z_gt, z_o1, z_o2, z_o3, z_o4, z_o5, z_o6, z_o7, z_o8, z_o9, z_bn, z_jn, nI_add, z_mul, z_sub, z_div, Nat.not_lt_zero, z_cl, z_le, z_lt, z_eq, z_inb, z_nz, z_isB0, z_notJ, z_notI, z_isB1, z_m1, z_pos, z_pos', z_nlt, z_nle', z_m1le, z_m1a, z_nle, z_sI0, z_sI1, z_sI2, z_sI3, z_sJ0, z_sJ1, z_sJ2, z_sJ3, z_sF0, z_sF1, z_sF2, z_sA0, z_sA1, z_sA2, z_sA3, z_sAA, z_sIA, ↓reduceIte, Nat.reduceEqDiff, Nat.reduceLeDiff, Nat.reduceLT, z_l0, z_l1, z_l2, z_l3, z_l4, z_l5, z_l6, z_l7, z_l8, z_l9, z_l10, z_l11, z_l12, z_l13, z_l14, z_l15, z_l16, z_l17, z_l18, z_l19, z_l20, z_l21, z_l22, z_l23, z_l24, z_l25, z_l26, z_l27, z_l28, z_l32, z_l48, z_l56, z_l57, z_l59, z_l63, z_l64, z_l96, z_l97, z_l122, z_l127, z_l152, z_l158, z_l182, z_l255, z_l256, z_l310, z_l342, z_l406, z_l440, z_l729, z_l800, z_l3960, z_l14336, z_l14592, z_l100000, e0, e1, e2, e3, e4, e5, e6, e7, e8]
    · rw [hk, if_neg (by decide)]
      exact M8
  rw [if_neg c8] at e8 M8
  have hk : kwI B M (rn isSp B M a) = im1 := by
    unfold kwI
    rw [if_neg c0, if_neg c1, if_neg c2, if_neg c3, if_neg c4, if_neg c5, if_neg c6, if_neg c7, if_neg c8]
  refine ⟨v9, ?_, ?_⟩
  · rw [hk]
    simp (disch := omega) only [z_gt, z_o1, z_o2, z_o3, z_o4, z_o5, z_o6, z_o7, z_o8, z_o9, z_bn, z_jn, nI_add, z_mul, z_sub, z_div, Nat.not_lt_zero, z_cl, z_le, z_lt, z_eq, z_inb, z_nz, z_isB0, z_notJ, z_notI, z_isB1, z_m1, z_pos, z_pos', z_nlt, z_nle', z_m1le, z_m1a, z_nle, z_sI0, z_sI1, z_sI2, z_sI3, z_sJ0, z_sJ1, z_sJ2, z_sJ3, z_sF0, z_sF1, z_sF2, z_sA0, z_sA1, z_sA2, z_sA3, z_sAA, z_sIA, ↓reduceIte, Nat.reduceEqDiff, Nat.reduceLeDiff, Nat.reduceLT, z_l0, z_l1, z_l2, z_l3, z_l4, z_l5, z_l6, z_l7, z_l8, z_l9, z_l10, z_l11, z_l12, z_l13, z_l14, z_l15, z_l16, z_l17, z_l18, z_l19, z_l20, z_l21, z_l22, z_l23, z_l24, z_l25, z_l26, z_l27, z_l28, z_l32, z_l48, z_l56, z_l57, z_l59, z_l63, z_l64, z_l96, z_l97, z_l122, z_l127, z_l152, z_l158, z_l182, z_l255, z_l256, z_l310, z_l342, z_l406, z_l440, z_l729, z_l800, z_l3960, z_l14336, z_l14592, z_l100000, e0, e1, e2, e3, e4, e5, e6, e7, e8]
  · rw [hk, if_pos rfl]
    exact M8
/-- below K, both numbers say the same -/
theorem nm_lt {B : Nat → Nat} {M s K : Nat} (hk : tkind B M s = 2) (hK : K ≤ 100000) : (nmC B s (tend B M s - s) < K ↔ nmR B s (tend B M s - s) < K) ∧ (nmR B s (tend B M s - s) < K → nmC B s (tend B M s - s) = nmR B s (tend B M s - s)) := by
  have te := (tk2 (B := B) (M := M) (s := s)).2 hk
  obtain ⟨a, b⟩ := nm_CR (B := B) (p := s) (tend B M s - s) (fun i h1 h2 => rn_in (c := isDg) (M := M) h1 (by have := rn_ge isDg B M s; omega))
  rw [a]
  by_cases c : nmR B s (tend B M s - s) < 100000
  · rw [if_pos c]
    exact ⟨Iff.rfl, fun _ => rfl⟩
  · rw [if_neg c]
    exact ⟨⟨fun h => by omega, fun h => by omega⟩, fun h => by omega⟩
