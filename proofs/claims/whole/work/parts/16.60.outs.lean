/-! reading outputs, on both sides -/
theorem JC.ofOk {B : Nat → Nat} {M : Nat} {v0 : Vs} {a : Nat} {vT : Vs} {X : Option (Int32 × Vs × Vs)} {Y : Option (Int32 × Vs)} (h : Ok Y (fun r => JC B M v0 a vT X (some r))) : JC B M v0 a vT X Y := by
  obtain ⟨r, e, h⟩ := h
  rw [e]
  exact h
theorem JC.toOk {B : Nat → Nat} {M : Nat} {v0 : Vs} {a b : Nat} {vT : Vs} {X X' : Option (Int32 × Vs × Vs)} {Y : Option (Int32 × Vs)} (h : JC B M v0 b vT X Y) (hab : a ≤ b) (hX : X' = X) : Ok Y (fun r => JC B M v0 a vT X' (some r)) := by
  subst hX
  rcases h with ⟨vD', vC', vM', q', a', e1, e2, x1, x2, x3, x4, x6, x5⟩ | ⟨vD', vC', vM', c, x, e1, e2, x1, x2, x3⟩
  · exact ⟨_, e2, Or.inl ⟨vD', vC', vM', q', a', e1, rfl, x1, x2, x3, x4, x6, by omega⟩⟩
  · exact ⟨_, e2, Or.inr ⟨vD', vC', vM', c, x, e1, rfl, x1, x2, x3⟩⟩
theorem tk_dg {B : Nat → Nat} {M s : Nat} (hb : ∀ i, i < M → B i < 256) : f_X8_isDigit (if s < M then nI (B s) else im1) = some (nI (if tkind B M s = 2 then 1 else 0)) := by
  obtain ⟨k1, -⟩ := tk2 (B := B) (M := M) (s := s)
  by_cases c : s < M
  · rw [if_pos c, g_isDigit (hb s c)]
    by_cases d : isDg (B s) = true
    · rw [if_pos d, if_pos (k1.mpr ⟨c, d⟩)]
    · rw [if_neg d, if_neg (fun z => d (k1.mp z).2)]
  · rw [if_neg c, g_isDigit1, if_neg (fun z => c (k1.mp z).1)]
/-- the list of outputs, from a number on -/
theorem j_outs {B : Nat → Nat} {M : Nat} {v0 vT : Vs} (hM : M ≤ 800) : ∀ m a c q vD vC vM (k1 k2 : Nat), M - a < m → m ≤ k1 → m ≤ k2 → tkind B M (rn isSp B M a) = 2 → c ≤ NO q → CH B M (rn isSp B M a) vD → MH B M v0 q a vM → GR q vC vT → SN2 q → ZC q vC → JC B M v0 a vT (lp f_X5_readOutputs_L29 (fun _ _ _ => none) k1 (nI c) vD vC) (lp f_X8_readsOutputs_L2 (fun _ _ => none) k2 (nI 1) vM)
  | 0, a, c, q, vD, vC, vM, k1, k2, h, _, _, _, _, _, _, _, _, _ => by omega
  | m + 1, a, c, q, vD, vC, vM, k1, k2, h, g1, g2, hk, hc, hD, hMM, hG, hS, hZ => by
    obtain ⟨k1, rfl⟩ : ∃ k, k1 = k + 1 := ⟨k1 - 1, by omega⟩
    obtain ⟨k2, rfl⟩ : ∃ k, k2 = k + 1 := ⟨k2 - 1, by omega⟩
    show JC B M v0 a vT (f_X5_readOutputs_L29 (lp f_X5_readOutputs_L29 (fun _ _ _ => none) k1) (nI c) vD vC) (f_X8_readsOutputs_L2 (lp f_X8_readsOutputs_L2 (fun _ _ => none) k2) (nI 1) vM)
    obtain ⟨hw, ht, hC, hT⟩ := id hG
    have hnf := hw.nf
    have haM := hMM.2.2.1
    have hsa := rn_ge isSp B M a
    have hsM := rn_le isSp B haM
    obtain ⟨-, w2⟩ := hMM.wire (W := NW q) hw.2.1.1 (by have := hw.1.2.1; have := hw.2.1.2.1; omega) hnf.2.1
    obtain ⟨w3, w4⟩ := w2 hk
    obtain ⟨s, hs⟩ : ∃ s, s = rn isSp B M a := ⟨_, rfl⟩
    rw [← hs] at hk hD w3 w4 hsa hsM
    obtain ⟨n, hn⟩ : ∃ n, n = nmC B s (tend B M s - s) := ⟨_, rfl⟩
    rw [← hn] at w3 w4
    have hn5 : n ≤ 100000 := by rw [hn]; exact nmC_le _ _ _
    have ht2 := tend_le (B := B) hsM
    have hte : s < tend B M s := by
      obtain ⟨x1, x2⟩ := (tk2 (B := B) (M := M) (s := s)).1.mp hk
      rw [(tk2 (B := B) (M := M) (s := s)).2 hk, rn_go x1 x2]
      have := rn_ge isDg B M (s + 1)
      omega
    have d7 : vD.1 7 = nI 2 := by rw [hD.2.1.2.1, hk]
    have d9 : vD.1 9 = nI n := by rw [hD.2.1.2.2.2 hk, hn]
    have d1 := hC.1.2.1
    have c6 : ¬ 6 < c := by omega
    by_cases hnW : n < NW q
    · obtain ⟨v1, e1, M1, u17, u18, u2⟩ := w3 hnW
      refine JC.ofOk ?_
      unfold f_X8_readsOutputs_L2
      rw [if_neg (by decide)]
      refine ok_o2e e1 ?_
      rw [if_neg (by decide)]
      have oX := x_outputOf hw hC hnW
      have a2 : ∀ k, k < 440 → v1.2.1 2 k = q k := M1.2.2.2.2.2.1
      have hq2 : v1.2.1 2 2 = nI (NO q) := by rw [a2 2 (by omega)]; exact hw.2.2.1.1
      have t2 : ((2 : Int32)).toNatClampNeg = 2 := rfl
      refine zl1 (I := fun m x => ∃ j, x = nI j ∧ j ≤ NO q ∧ m = NO q - j ∧ ∀ i, i < j → ou q i ≠ n) ?_ FU (NO q) _ (by unfold FU; omega) ⟨0, rfl, by omega, by omega, fun i hi => by omega⟩
      rintro m' x selfL ⟨j, rfl, hjO, rfl, hj⟩ ihL
      unfold f_X8_readsOutputs_L17
      refine ok_gd (by decide) ?_
      rw [t2, hq2]
      by_cases hb : NO q ≤ j
      · rw [ift hb (by omega)]
        have hno : outI q n = im1 := fstI_no (fun i hi => decide_eq_false (hj i (by omega)))
        rw [hno] at oX
        refine ok_gd (by decide) ?_
        by_cases h6 : NO q = 6
        · rw [h6, if_pos (show nI 6 = (6 : Int32) from rfl)]
          obtain ⟨v3, e3, F3⟩ := h_fails M1.2.2.2.1 M1.2.2.2.2.2.2 (-6) (nI s)
          obtain ⟨v2, e2, C2⟩ := hD.fail (-6)
          have e2' : f_X5_fail vD (-nI 6) = some (nI 0, v2) := e2
          rw [u18]
          refine ok_o2e e3 ?_
          refine ok_gd (by decide) (ok_some (Or.inr ⟨v2, vC, v3, -6, nI s, ?_, rfl, C2, F3, by decide⟩))
          unfold f_X5_readOutputs_L29 f_X0_isFullOfOutputs
          have n66 : ¬ 6 < 6 := by omega
          simp (disch := omega) only [z_gt, z_o1, z_o2, z_o3, z_o4, z_o5, z_o6, z_o7, z_o8, z_o9, z_bn, z_jn, nI_add, z_mul, z_sub, z_div, Nat.not_lt_zero, z_cl, z_le, z_lt, z_eq, z_inb, z_nz, z_isB0, z_notJ, z_notI, z_isB1, z_m1, z_pos, z_pos', z_nlt, z_nle', z_m1le, z_m1a, z_nle, z_sI0, z_sI1, z_sI2, z_sI3, z_sJ0, z_sJ1, z_sJ2, z_sJ3, z_sF0, z_sF1, z_sF2, z_sA0, z_sA1, z_sA2, z_sA3, z_sAA, z_sIA, ↓reduceIte, Nat.reduceEqDiff, Nat.reduceLeDiff, Nat.reduceLT, z_l0, z_l1, z_l2, z_l3, z_l4, z_l5, z_l6, z_l7, z_l8, z_l9, z_l10, z_l11, z_l12, z_l13, z_l14, z_l15, z_l16, z_l17, z_l18, z_l19, z_l20, z_l21, z_l22, z_l23, z_l24, z_l25, z_l26, z_l27, z_l28, z_l32, z_l48, z_l56, z_l57, z_l59, z_l63, z_l64, z_l96, z_l97, z_l122, z_l127, z_l152, z_l158, z_l182, z_l255, z_l256, z_l310, z_l342, z_l406, z_l440, z_l729, z_l800, z_l3960, z_l14336, z_l14592, z_l100000, c6, d7, d9, d1, hnW, oX, hC.1.2.2.1, h6, n66, e2', z_m1le, z_nle]
        · have h6' : NO q < 6 := by have := hw.2.2.1.2; omega
          rw [z_l6, ief h6 (by omega) (by omega)]
          refine ok_gd (by decide) ?_
          rw [z_l152, nI_add]
          refine ok_gd (z_inb (by omega) (by omega)) ?_
          refine ok_bn ?_
          refine ok_gd (by decide) ?_
          refine ok_gd (by decide) ?_
          refine ok_bn ?_
          rw [z_cl (by omega), u17, z_sI2, z_u2 _ _ (by omega), hq2, z_p1]
          have M2 := (M1.put (152 + NO q) (nI n)).put 2 (nI (NO q + 1))
          obtain ⟨vC2, eP, G2, eNO, eA9, eNW⟩ := put_out hG hS h6' hnW
          obtain ⟨vD2, eA, hD2⟩ := hD.adv hsM
          obtain ⟨v4, e4, M4, -⟩ := M2.here
          obtain ⟨q2, hq2d⟩ : ∃ q2, q2 = upd (upd q (152 + NO q) (nI n)) 2 (nI (NO q + 1)) := ⟨_, rfl⟩
          rw [← hq2d] at G2 eNO M4 eNW
          have S2 : SN2 q2 := fun k h1 h2 => by rw [hq2d, z_u2 _ _ (by omega), z_u2 _ _ (by omega)]; exact hS k h1 h2
          refine ok_o2e e4 ?_
          refine ok_o1e (tk_dg (fun i hi => (M4.1.2.2 i hi).2)) ?_
          obtain ⟨s2, hs2⟩ : ∃ s2, s2 = rn isSp B M (tend B M s) := ⟨_, rfl⟩
          have hs2s := rn_ge isSp B M (tend B M s)
          have hrr : rn isSp B M s2 = s2 := by rw [hs2]; exact rn_rn _ _ _ _
          rw [← hs2] at hD2 M4 hs2s ⊢
          have stepX : f_X5_readOutputs_L29 (lp f_X5_readOutputs_L29 (fun _ _ _ => none) k1) (nI c) vD vC = lp f_X5_readOutputs_L29 (fun _ _ _ => none) k1 (nI (c + 1)) vD2 vC2 := by
            unfold f_X5_readOutputs_L29 f_X0_isFullOfOutputs
            simp (disch := omega) only [z_gt, z_o1, z_o2, z_o3, z_o4, z_o5, z_o6, z_o7, z_o8, z_o9, z_bn, z_jn, nI_add, z_mul, z_sub, z_div, Nat.not_lt_zero, z_cl, z_le, z_lt, z_eq, z_inb, z_nz, z_isB0, z_notJ, z_notI, z_isB1, z_m1, z_pos, z_pos', z_nlt, z_nle', z_m1le, z_m1a, z_nle, z_sI0, z_sI1, z_sI2, z_sI3, z_sJ0, z_sJ1, z_sJ2, z_sJ3, z_sF0, z_sF1, z_sF2, z_sA0, z_sA1, z_sA2, z_sA3, z_sAA, z_sIA, ↓reduceIte, Nat.reduceEqDiff, Nat.reduceLeDiff, Nat.reduceLT, z_l0, z_l1, z_l2, z_l3, z_l4, z_l5, z_l6, z_l7, z_l8, z_l9, z_l10, z_l11, z_l12, z_l13, z_l14, z_l15, z_l16, z_l17, z_l18, z_l19, z_l20, z_l21, z_l22, z_l23, z_l24, z_l25, z_l26, z_l27, z_l28, z_l32, z_l48, z_l56, z_l57, z_l59, z_l63, z_l64, z_l96, z_l97, z_l122, z_l127, z_l152, z_l158, z_l182, z_l255, z_l256, z_l310, z_l342, z_l406, z_l440, z_l729, z_l800, z_l3960, z_l14336, z_l14592, z_l100000, c6, d7, d9, d1, hnW, oX, hC.1.2.2.1, h6', eP, eA]
          by_cases hk2 : tkind B M s2 = 2
          · rw [if_pos hk2]
            refine JC.toOk (j_outs hM m s2 (c + 1) q2 vD2 vC2 v4 k1 k2 (by omega) (by omega) (by omega) (by rw [hrr]; exact hk2) (by omega) (by rw [hrr]; exact hD2) M4 G2 S2 (hZ.of eNW eA9)) (by omega) stepX
          · rw [if_neg hk2]
            obtain ⟨k1', rfl⟩ : ∃ k, k1 = k + 1 := ⟨k1 - 1, by omega⟩
            obtain ⟨k2', rfl⟩ : ∃ k, k2 = k + 1 := ⟨k2 - 1, by omega⟩
            refine ⟨(nI 1, v4), rfl, Or.inl ⟨vD2, vC2, v4, q2, s2, ?_, rfl, by rw [hrr]; exact hD2, M4, G2, S2, hZ.of eNW eA9, by omega⟩⟩
            rw [stepX]
            show f_X5_readOutputs_L29 (lp f_X5_readOutputs_L29 (fun _ _ _ => none) k1') (nI (c + 1)) vD2 vC2 = _
            have d72 := hD2.2.1.2.1
            have hk4 : tkind B M s2 ≤ 4 := by unfold tkind; (repeat' split) <;> omega
            have c7 : ¬ 6 < c + 1 := by omega
            unfold f_X5_readOutputs_L29
            simp (disch := omega) only [z_gt, z_o1, z_o2, z_o3, z_o4, z_o5, z_o6, z_o7, z_o8, z_o9, z_bn, z_jn, nI_add, z_mul, z_sub, z_div, Nat.not_lt_zero, z_cl, z_le, z_lt, z_eq, z_inb, z_nz, z_isB0, z_notJ, z_notI, z_isB1, z_m1, z_pos, z_pos', z_nlt, z_nle', z_m1le, z_m1a, z_nle, z_sI0, z_sI1, z_sI2, z_sI3, z_sJ0, z_sJ1, z_sJ2, z_sJ3, z_sF0, z_sF1, z_sF2, z_sA0, z_sA1, z_sA2, z_sA3, z_sAA, z_sIA, ↓reduceIte, Nat.reduceEqDiff, Nat.reduceLeDiff, Nat.reduceLT, z_l0, z_l1, z_l2, z_l3, z_l4, z_l5, z_l6, z_l7, z_l8, z_l9, z_l10, z_l11, z_l12, z_l13, z_l14, z_l15, z_l16, z_l17, z_l18, z_l19, z_l20, z_l21, z_l22, z_l23, z_l24, z_l25, z_l26, z_l27, z_l28, z_l32, z_l48, z_l56, z_l57, z_l59, z_l63, z_l64, z_l96, z_l97, z_l122, z_l127, z_l152, z_l158, z_l182, z_l255, z_l256, z_l310, z_l342, z_l406, z_l440, z_l729, z_l800, z_l3960, z_l14336, z_l14592, z_l100000, c7, d72, hk2]
      · rw [iff_ hb (by omega), z_l152, nI_add]
        refine ok_gd (z_inb (by omega) (by omega)) ?_
        have hjq : v1.2.1 2 (152 + j) = nI (ou q j) := by rw [a2 _ (by omega)]; exact (hw.2.2.2.2.2.2.2.1 j (by omega)).1
        have hjw := (hw.2.2.2.2.2.2.2.1 j (by omega)).2
        rw [z_cl (by omega), hjq, u17]
        by_cases hd : ou q j = n
        · rw [iet hd, u18]
          have hyes : outI q n = nI j := fstI_yes (by omega) (decide_eq_true hd) (fun i hi => decide_eq_false (hj i hi))
          rw [hyes] at oX
          obtain ⟨v3, e3, F3⟩ := h_fails M1.2.2.2.1 M1.2.2.2.2.2.2 (-4) (nI s)
          obtain ⟨v2, e2, C2⟩ := hD.fail (-4)
          have e2' : f_X5_fail vD (-nI 4) = some (nI 0, v2) := e2
          refine ok_o2e e3 ?_
          refine ok_gd (by decide) (ok_some (Or.inr ⟨v2, vC, v3, -4, nI s, ?_, rfl, C2, F3, by decide⟩))
          unfold f_X5_readOutputs_L29
          simp (disch := omega) only [z_gt, z_o1, z_o2, z_o3, z_o4, z_o5, z_o6, z_o7, z_o8, z_o9, z_bn, z_jn, nI_add, z_mul, z_sub, z_div, Nat.not_lt_zero, z_cl, z_le, z_lt, z_eq, z_inb, z_nz, z_isB0, z_notJ, z_notI, z_isB1, z_m1, z_pos, z_pos', z_nlt, z_nle', z_m1le, z_m1a, z_nle, z_sI0, z_sI1, z_sI2, z_sI3, z_sJ0, z_sJ1, z_sJ2, z_sJ3, z_sF0, z_sF1, z_sF2, z_sA0, z_sA1, z_sA2, z_sA3, z_sAA, z_sIA, ↓reduceIte, Nat.reduceEqDiff, Nat.reduceLeDiff, Nat.reduceLT, z_l0, z_l1, z_l2, z_l3, z_l4, z_l5, z_l6, z_l7, z_l8, z_l9, z_l10, z_l11, z_l12, z_l13, z_l14, z_l15, z_l16, z_l17, z_l18, z_l19, z_l20, z_l21, z_l22, z_l23, z_l24, z_l25, z_l26, z_l27, z_l28, z_l32, z_l48, z_l56, z_l57, z_l59, z_l63, z_l64, z_l96, z_l97, z_l122, z_l127, z_l152, z_l158, z_l182, z_l255, z_l256, z_l310, z_l342, z_l406, z_l440, z_l729, z_l800, z_l3960, z_l14336, z_l14592, z_l100000, c6, d7, d9, d1, hnW, oX, e2']
        · rw [ief hd (by omega) (by omega), z_l1, nI_add]
          refine ihL _ _ (by omega) ⟨j + 1, rfl, by omega, rfl, fun i hi => ?_⟩
          by_cases e : i = j
          · rw [e]; exact hd
          · exact hj i (by omega)
    · obtain ⟨v1, e1, F1⟩ := w4 hnW
      obtain ⟨v2, e2, C2⟩ := hD.fail (-3)
      have e2' : f_X5_fail vD (-nI 3) = some (nI 0, v2) := e2
      refine Or.inr ⟨v2, vC, v1, -3, nI s, ?_, ?_, C2, F1, by decide⟩
      · unfold f_X5_readOutputs_L29
        simp (disch := omega) only [z_gt, z_o1, z_o2, z_o3, z_o4, z_o5, z_o6, z_o7, z_o8, z_o9, z_bn, z_jn, nI_add, z_mul, z_sub, z_div, Nat.not_lt_zero, z_cl, z_le, z_lt, z_eq, z_inb, z_nz, z_isB0, z_notJ, z_notI, z_isB1, z_m1, z_pos, z_pos', z_nlt, z_nle', z_m1le, z_m1a, z_nle, z_sI0, z_sI1, z_sI2, z_sI3, z_sJ0, z_sJ1, z_sJ2, z_sJ3, z_sF0, z_sF1, z_sF2, z_sA0, z_sA1, z_sA2, z_sA3, z_sAA, z_sIA, ↓reduceIte, Nat.reduceEqDiff, Nat.reduceLeDiff, Nat.reduceLT, z_l0, z_l1, z_l2, z_l3, z_l4, z_l5, z_l6, z_l7, z_l8, z_l9, z_l10, z_l11, z_l12, z_l13, z_l14, z_l15, z_l16, z_l17, z_l18, z_l19, z_l20, z_l21, z_l22, z_l23, z_l24, z_l25, z_l26, z_l27, z_l28, z_l32, z_l48, z_l56, z_l57, z_l59, z_l63, z_l64, z_l96, z_l97, z_l122, z_l127, z_l152, z_l158, z_l182, z_l255, z_l256, z_l310, z_l342, z_l406, z_l440, z_l729, z_l800, z_l3960, z_l14336, z_l14592, z_l100000, c6, d7, d9, d1, hnW, e2']
      · unfold f_X8_readsOutputs_L2
        rw [if_neg (by decide), e1, z_o2, if_pos (show nI 0 = (0 : Int32) from rfl)]
        rfl
theorem j_outputs {B : Nat → Nat} {M s a : Nat} {v0 vD vC vT vM : Vs} {q : Nat → Int32} (hs : s ≤ M) (ha : a = tend B M s) (hD : CH B M s vD) (hMM : MH B M v0 q a vM) (hG : GR q vC vT) (hS : SN2 q) (hZ : ZC q vC) : JC B M v0 a vT (f_X5_readOutputs vD vC vT) (f_X8_readsOutputs vM) := by
  obtain ⟨hw, ht, hC, hT⟩ := id hG
  have hnf := hw.nf
  have hM := hMM.1.2.1
  obtain ⟨vD1, e1, hD1⟩ := hD.adv hs
  rw [← ha] at hD1
  have d7 := hD1.2.1.2.1
  have hk4 : tkind B M (rn isSp B M a) ≤ 4 := by unfold tkind; (repeat' split) <;> omega
  unfold f_X5_readOutputs f_X8_readsOutputs
  rw [e1, z_o1, d7, z_l2]
  by_cases hk : tkind B M (rn isSp B M a) = 2
  · rw [iet hk]
    exact j_outs hM (M - a + 1) a 0 q vD1 vC vM FU FU (by omega) (by unfold FU; omega) (by unfold FU; omega) hk (Nat.zero_le _) hD1 hMM hG hS hZ
  · rw [ief hk (by omega) (by omega)]
    obtain ⟨v2, e2, C2⟩ := hD1.fail (-2)
    obtain ⟨w1, -⟩ := hMM.wire (W := NW q) hw.2.1.1 (by have := hw.1.2.1; have := hw.2.1.2.1; omega) hnf.2.1
    obtain ⟨v3, e3, F3⟩ := w1 hk
    refine Or.inr ⟨v2, vC, v3, -2, nI (rn isSp B M a), ?_, ?_, C2, F3, by decide⟩
    · have e2' : f_X5_fail vD1 (-nI 2) = some (nI 0, v2) := e2
      rw [e2', z_o2]
      rfl
    · show f_X8_readsOutputs_L2 (lp f_X8_readsOutputs_L2 (fun _ _ => none) 999999) (nI 1) vM = _
      unfold f_X8_readsOutputs_L2
      rw [if_neg (by decide), e3, z_o2, if_pos (show nI 0 = (0 : Int32) from rfl)]
      rfl
