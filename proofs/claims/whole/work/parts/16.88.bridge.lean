/-! reading a bridge, on both sides -/
theorem kw_other {B : Nat → Nat} {M s : Nat} (h1 : ¬ isW B M s 1 = true) (h2 : ¬ isW B M s 16 = true) : ¬ kwI B M s = nI 0 ∧ ¬ kwI B M s = nI 1 := by
  unfold kwI
  rw [if_neg h1, if_neg h2]
  refine ⟨?_, ?_⟩
  · (repeat' split) <;> decide
  · (repeat' split) <;> decide
theorem JC.mono {B : Nat → Nat} {M : Nat} {v0 : Vs} {a b : Nat} {vT : Vs} {X X' : Option (Int32 × Vs × Vs)} {Y Y' : Option (Int32 × Vs)} (h : JC B M v0 b vT X Y) (hab : a ≤ b) (hX : X' = X) (hY : Y' = Y) : JC B M v0 a vT X' Y' := by
  subst hX hY
  rcases h with ⟨vD', vC', vM', q', a', e1, e2, x1, x2, x3, x4, x6, x5⟩ | h
  · exact Or.inl ⟨vD', vC', vM', q', a', e1, e2, x1, x2, x3, x4, x6, by omega⟩
  · exact Or.inr h
theorem j_bridge {B : Nat → Nat} {M s a : Nat} {v0 vD vC vT vM : Vs} {q : Nat → Int32} (hs : s ≤ M) (ha : a = tend B M s) (hD : CH B M s vD) (hMM : MH B M v0 q a vM) (hG : GR q vC vT) (hS : SN2 q) (hZ : ZC q vC) : JC B M v0 a vT (f_X5_readBridge vD vC vT) (f_X8_readsBridge vM (nI s)) := by
  obtain ⟨hw, ht, hC, hT⟩ := id hG
  have hnf := hw.nf
  have r3 : vM.2.1 2 3 = nI (NB q) := by rw [hMM.2.2.2.2.2.1 3 (by omega)]; exact hw.2.2.2.1.1
  have t3 : ((3 : Int32)).toNatClampNeg = 3 := rfl
  have i3 : inb (3 : Int32) 440 = true := by decide
  by_cases h8 : NB q = 8
  · obtain ⟨v2, e2, F2⟩ := h_fails hMM.2.2.2.1 hMM.2.2.2.2.2.2 (-6) (nI s)
    obtain ⟨v3, e3, C3⟩ := hD.fail (-6)
    have n8 : ¬ NB q < 8 := by omega
    have e3' : f_X5_fail vD (-nI 6) = some (nI 0, v3) := e3
    refine Or.inr ⟨v3, vC, v2, -6, nI s, ?_, ?_, C3, F2, by decide⟩
    · unfold f_X5_readBridge f_X0_isFullOfBridges
      simp (disch := omega) only [z_gt, z_o1, z_o2, z_o3, z_o4, z_o5, z_o6, z_o7, z_o8, z_o9, z_bn, z_jn, nI_add, z_mul, z_sub, z_div, Nat.not_lt_zero, z_cl, z_le, z_lt, z_eq, z_inb, z_nz, z_isB0, z_notJ, z_notI, z_isB1, z_m1, z_pos, z_pos', z_nlt, z_nle', z_m1le, z_m1a, z_nle, z_sI0, z_sI1, z_sI2, z_sI3, z_sJ0, z_sJ1, z_sJ2, z_sJ3, z_sF0, z_sF1, z_sF2, z_sA0, z_sA1, z_sA2, z_sA3, z_sAA, z_sIA, ↓reduceIte, Nat.reduceEqDiff, Nat.reduceLeDiff, Nat.reduceLT, z_l0, z_l1, z_l2, z_l3, z_l4, z_l5, z_l6, z_l7, z_l8, z_l9, z_l10, z_l11, z_l12, z_l13, z_l14, z_l15, z_l16, z_l17, z_l18, z_l19, z_l20, z_l21, z_l22, z_l23, z_l24, z_l25, z_l26, z_l27, z_l28, z_l32, z_l48, z_l56, z_l57, z_l59, z_l63, z_l64, z_l96, z_l97, z_l122, z_l127, z_l152, z_l158, z_l182, z_l255, z_l256, z_l310, z_l342, z_l406, z_l440, z_l729, z_l800, z_l3960, z_l14336, z_l14592, z_l100000, hC.1.2.2.2, n8, e3']
    · unfold f_X8_readsBridge
      rw [i3, z_gt, t3, r3, z_l8, iet h8, e2, z_o2]
      rfl
  · have h8' : NB q < 8 := by omega
    obtain ⟨vD1, e1, hD1⟩ := hD.adv hs
    rw [← ha] at hD1
    have hs1 := rn_le isSp B hMM.2.2.1
    have hs1a := rn_ge isSp B M a
    obtain ⟨s1, hs1d⟩ : ∃ s1, s1 = rn isSp B M a := ⟨_, rfl⟩
    have hrr : rn isSp B M s1 = s1 := by rw [hs1d]; exact rn_rn _ _ _ _
    obtain ⟨v1, m1, M1, -⟩ := hMM.takes (i := 1) (by decide)
    rw [← hs1d] at hD1 hs1 hs1a m1 M1
    have ek := hD1.kind hs1
    have ht1 := tend_le (B := B) hs1
    obtain ⟨vD2, e2, hD2⟩ := hD1.adv hs1
    have full : f_X0_isFullOfBridges vC = some (nI 0) := by
      unfold f_X0_isFullOfBridges
      simp (disch := omega) only [z_gt, z_o1, z_o2, z_o3, z_o4, z_o5, z_o6, z_o7, z_o8, z_o9, z_bn, z_jn, nI_add, z_mul, z_sub, z_div, Nat.not_lt_zero, z_cl, z_le, z_lt, z_eq, z_inb, z_nz, z_isB0, z_notJ, z_notI, z_isB1, z_m1, z_pos, z_pos', z_nlt, z_nle', z_m1le, z_m1a, z_nle, z_sI0, z_sI1, z_sI2, z_sI3, z_sJ0, z_sJ1, z_sJ2, z_sJ3, z_sF0, z_sF1, z_sF2, z_sA0, z_sA1, z_sA2, z_sA3, z_sAA, z_sIA, ↓reduceIte, Nat.reduceEqDiff, Nat.reduceLeDiff, Nat.reduceLT, z_l0, z_l1, z_l2, z_l3, z_l4, z_l5, z_l6, z_l7, z_l8, z_l9, z_l10, z_l11, z_l12, z_l13, z_l14, z_l15, z_l16, z_l17, z_l18, z_l19, z_l20, z_l21, z_l22, z_l23, z_l24, z_l25, z_l26, z_l27, z_l28, z_l32, z_l48, z_l56, z_l57, z_l59, z_l63, z_l64, z_l96, z_l97, z_l122, z_l127, z_l152, z_l158, z_l182, z_l255, z_l256, z_l310, z_l342, z_l406, z_l440, z_l729, z_l800, z_l3960, z_l14336, z_l14592, z_l100000, hC.1.2.2.2, h8']
    have preX : ∀ t, t ≤ 1 → kwI B M s1 = nI t → f_X5_readBridge vD vC vT = XB vC vT (nI t) vD2 := fun t ht hk => by
      rw [hk] at ek
      unfold f_X5_readBridge
      rw [full, z_o1, if_pos (show nI 0 = (0 : Int32) from rfl), e1, z_o1, ek, z_o1, z_jn]
      have : t = 0 ∨ t = 1 := by omega
      rcases this with rfl | rfl
      · rw [if_pos (show nI 0 = (0 : Int32) from rfl), e2, z_o1]
        rfl
      · rw [if_neg (show ¬ nI 1 = (0 : Int32) by decide), if_pos (show nI 1 = (1 : Int32) from rfl), e2, z_o1]
        rfl
    by_cases c1 : isW B M s1 1 = true
    · rw [if_pos c1] at m1 M1
      have hk : kwI B M s1 = nI 0 := by unfold kwI; rw [if_pos c1]
      refine JC.mono (j_br (t := 0) (by omega) hD2 M1 hG hS hZ h8') (by omega) (preX 0 (by omega) hk) ?_
      unfold f_X8_readsBridge
      rw [i3, z_gt, t3, r3, z_l8, ief h8 (by omega) (by omega), m1, z_o2, z_jn, if_neg (show ¬ nI 1 = (0 : Int32) by decide)]
      rfl
    · rw [if_neg c1] at m1 M1
      obtain ⟨v2, m2, M2, -⟩ := M1.takes (i := 16) (by decide)
      rw [hrr] at m2 M2
      by_cases c2 : isW B M s1 16 = true
      · rw [if_pos c2] at m2 M2
        have hk : kwI B M s1 = nI 1 := by unfold kwI; rw [if_neg c1, if_pos c2]
        refine JC.mono (j_br (t := 1) (by omega) hD2 M2 hG hS hZ h8') (by omega) (preX 1 (by omega) hk) ?_
        unfold f_X8_readsBridge
        rw [i3, z_gt, t3, r3, z_l8, ief h8 (by omega) (by omega), m1, z_o2, z_jn, if_pos (show nI 0 = (0 : Int32) from rfl), m2, z_o2, if_neg (show ¬ nI 1 = (0 : Int32) by decide)]
        rfl
      · rw [if_neg c2] at m2 M2
        obtain ⟨n0, n1⟩ := kw_other c1 c2
        obtain ⟨v3, e3, C3⟩ := hD1.fail (-2)
        obtain ⟨v4, e4, F4⟩ := h_fails M2.2.2.2.1 M2.2.2.2.2.2.2 (-2) (nI s1)
        refine Or.inr ⟨v3, vC, v4, -2, nI s1, ?_, ?_, C3, F4, by decide⟩
        · unfold f_X5_readBridge
          rw [full, z_o1, if_pos (show nI 0 = (0 : Int32) from rfl), e1, z_o1, ek, z_o1, z_jn, if_neg (show ¬ kwI B M s1 = (0 : Int32) from n0), if_neg (show ¬ kwI B M s1 = (1 : Int32) from n1), e3]
          rfl
        · unfold f_X8_readsBridge
          rw [i3, z_gt, t3, r3, z_l8, ief h8 (by omega) (by omega), m1, z_o2, z_jn, if_pos (show nI 0 = (0 : Int32) from rfl), m2, z_o2, if_pos (show nI 0 = (0 : Int32) from rfl)]
          refine (if_pos (show (-1 : Int32) = -1 from rfl)).trans ?_
          rw [M2.2.1, e4]
          rfl
