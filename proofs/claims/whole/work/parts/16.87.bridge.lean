/-! reading a bridge, on both sides: behind the kind -/
def RB (t6 : Int32) (vM_7 : Vs) : Option (Int32 × Vs) := if t6 = (-1 : Int32) then o2 (f_X8_fails vM_7 (-2 : Int32) (vM_7.1 14)) (fun (r58 : Int32) (vM_59 : Vs) => gd (isB r58) (some (r58, vM_59))) else o2 (f_X8_readsWire vM_7) (fun (r11 : Int32) (vM_12 : Vs) => if r11 = 0 then gd (isB (0 : Int32)) (some ((0 : Int32), vM_12)) else o2 (f_X8_readsWire vM_12) (fun (r15 : Int32) (vM_16 : Vs) => if r15 = 0 then gd (isB (0 : Int32)) (some ((0 : Int32), vM_16)) else jn (fun (vM_19 : Vs) => o2 (f_X8_fails vM_19 (-5 : Int32) (vM_19.1 18)) (fun (r22 : Int32) (vM_23 : Vs) => gd (isB r22) (some (r22, vM_23)))) (fun k20 => if (vM_12.1 17) = (vM_16.1 17) then k20 vM_16 else o2 (f_X8_dependsOn vM_16 (vM_12.1 17) (vM_16.1 17)) (fun (r30 : Int32) (vM_31 : Vs) => if r30 = 0 then o2 (f_X8_dependsOn vM_31 (vM_31.1 17) (vM_12.1 17)) (fun (r34 : Int32) (vM_35 : Vs) => if r34 = 0 then gd (inb (3 : Int32) 440) (bn (((158 : Int32) + ((3 : Int32) * (vM_35.2.1 2 ((3 : Int32)).toNatClampNeg)))) (fun (y39 : Int32) => gd (inb y39 440) (bn (sI vM_35 2 (y39).toNatClampNeg t6) (fun (vM_41 : Vs) => gd (inb (y39 + (1 : Int32)) 440) (bn (sI vM_41 2 ((y39 + (1 : Int32))).toNatClampNeg (vM_12.1 17)) (fun (vM_43 : Vs) => gd (inb (y39 + (2 : Int32)) 440) (bn (sI vM_43 2 ((y39 + (2 : Int32))).toNatClampNeg (vM_43.1 17)) (fun (vM_45 : Vs) => gd (inb (3 : Int32) 440) (gd (inb (3 : Int32) 440) (bn (sI vM_45 2 ((3 : Int32)).toNatClampNeg ((vM_45.2.1 2 ((3 : Int32)).toNatClampNeg) + (1 : Int32))) (fun (vM_48 : Vs) => gd (isB (1 : Int32)) (some ((1 : Int32), vM_48))))))))))))) else k20 vM_35) else k20 vM_31))))
def XB (vC vT : Vs) (r6 : Int32) (vD_10 : Vs) : Option (Int32 × Vs × Vs) := o2 (f_X5_isKnownWire vD_10 vC vT) (fun (r12 : Int32) (vD_13 : Vs) => if r12 = 0 then gd (isB (0 : Int32)) (some ((0 : Int32), vD_13, vC)) else o1 (f_X5_advance vD_13) (fun (vD_16 : Vs) => o2 (f_X5_isKnownWire vD_16 vC vT) (fun (r18 : Int32) (vD_19 : Vs) => if r18 = 0 then gd (isB (0 : Int32)) (some ((0 : Int32), vD_19, vC)) else o1 (f_X0_wouldLoop vC (vD_13.1 9) (vD_19.1 9)) (fun (r22 : Int32) => if r22 = 0 then o1 (f_X0_putBridge vC r6 (vD_13.1 9) (vD_19.1 9)) (fun (vC_25 : Vs) => o1 (f_X5_advance vD_19) (fun (vD_27 : Vs) => o2 (f_X5_readSemicolon vD_27) (fun (r29 : Int32) (vD_30 : Vs) => gd (isB r29) (some (r29, vD_30, vC_25))))) else o2 (f_X5_fail vD_19 (-5 : Int32)) (fun (r36 : Int32) (vD_37 : Vs) => gd (isB r36) (some (r36, vD_37, vC)))))))
theorem MH.s19 {B : Nat → Nat} {M a : Nat} {v0 v : Vs} {q : Nat → Int32} (h : MH B M v0 q a v) (f : Nat → Int32) : MH B M v0 q a (sA v 19 f) := by
  obtain ⟨hB, h14, haM, h15, h16, hq, p1, p2, p3, p4, p5⟩ := h
  exact ⟨⟨hB.1, hB.2.1, fun i hi => by rw [z_sA3 _ _ _ (by decide)]; exact hB.2.2 i hi⟩, h14, haM, h15, h16, fun j hj => by rw [z_sA3 _ _ _ (by decide)]; exact hq j hj, p1, p2, p3, p4, by rw [z_sA3 _ _ _ (by decide)]; exact p5⟩
theorem x_loop {q : Nat → Int32} (hw : WFc q) {vC : Vs} (hC : RC q vC) {x y : Nat} (hx : x < NW q) (hy : y < NW q) : f_X0_wouldLoop vC (nI x) (nI y) = some (nI (if x = y ∨ dep q y x = true ∨ dep q x y = true then 1 else 0)) := by
  have hn := hw.nf
  unfold f_X0_wouldLoop
  by_cases hxy : x = y
  · rw [if_pos (Or.inl hxy)]
    simp (disch := omega) only [z_gt, z_o1, z_o2, z_o3, z_o4, z_o5, z_o6, z_o7, z_o8, z_o9, z_bn, z_jn, nI_add, z_mul, z_sub, z_div, Nat.not_lt_zero, z_cl, z_le, z_lt, z_eq, z_inb, z_nz, z_isB0, z_notJ, z_notI, z_isB1, z_m1, z_pos, z_pos', z_nlt, z_nle', z_m1le, z_m1a, z_nle, z_sI0, z_sI1, z_sI2, z_sI3, z_sJ0, z_sJ1, z_sJ2, z_sJ3, z_sF0, z_sF1, z_sF2, z_sA0, z_sA1, z_sA2, z_sA3, z_sAA, z_sIA, ↓reduceIte, Nat.reduceEqDiff, Nat.reduceLeDiff, Nat.reduceLT, z_l0, z_l1, z_l2, z_l3, z_l4, z_l5, z_l6, z_l7, z_l8, z_l9, z_l10, z_l11, z_l12, z_l13, z_l14, z_l15, z_l16, z_l17, z_l18, z_l19, z_l20, z_l21, z_l22, z_l23, z_l24, z_l25, z_l26, z_l27, z_l28, z_l32, z_l48, z_l56, z_l57, z_l59, z_l63, z_l64, z_l96, z_l97, z_l122, z_l127, z_l152, z_l158, z_l182, z_l255, z_l256, z_l310, z_l342, z_l406, z_l440, z_l729, z_l800, z_l3960, z_l14336, z_l14592, z_l100000, hxy]
  · have e1 := dep_b hw hx hy hxy
    have e2 := dep_b hw hy hx (fun z => hxy z.symm)
    have l1 := (hC.2.2.2.1 x hx).2.2
    have l2 := (hC.2.2.2.1 y hy).2.2
    cases h1 : dep q y x
    · rw [h1, if_neg (by decide)] at e1
      cases h2 : dep q x y
      · rw [h2, if_neg (by decide)] at e2
        rw [if_neg (by simp [hxy])]
        simp (disch := omega) only [z_gt, z_o1, z_o2, z_o3, z_o4, z_o5, z_o6, z_o7, z_o8, z_o9, z_bn, z_jn, nI_add, z_mul, z_sub, z_div, Nat.not_lt_zero, z_cl, z_le, z_lt, z_eq, z_inb, z_nz, z_isB0, z_notJ, z_notI, z_isB1, z_m1, z_pos, z_pos', z_nlt, z_nle', z_m1le, z_m1a, z_nle, z_sI0, z_sI1, z_sI2, z_sI3, z_sJ0, z_sJ1, z_sJ2, z_sJ3, z_sF0, z_sF1, z_sF2, z_sA0, z_sA1, z_sA2, z_sA3, z_sAA, z_sIA, ↓reduceIte, Nat.reduceEqDiff, Nat.reduceLeDiff, Nat.reduceLT, z_l0, z_l1, z_l2, z_l3, z_l4, z_l5, z_l6, z_l7, z_l8, z_l9, z_l10, z_l11, z_l12, z_l13, z_l14, z_l15, z_l16, z_l17, z_l18, z_l19, z_l20, z_l21, z_l22, z_l23, z_l24, z_l25, z_l26, z_l27, z_l28, z_l32, z_l48, z_l56, z_l57, z_l59, z_l63, z_l64, z_l96, z_l97, z_l122, z_l127, z_l152, z_l158, z_l182, z_l255, z_l256, z_l310, z_l342, z_l406, z_l440, z_l729, z_l800, z_l3960, z_l14336, z_l14592, z_l100000, hxy, l1, l2, e1, e2]
      · rw [h2, if_pos rfl] at e2
        rw [if_pos (by simp)]
        simp (disch := omega) only [z_gt, z_o1, z_o2, z_o3, z_o4, z_o5, z_o6, z_o7, z_o8, z_o9, z_bn, z_jn, nI_add, z_mul, z_sub, z_div, Nat.not_lt_zero, z_cl, z_le, z_lt, z_eq, z_inb, z_nz, z_isB0, z_notJ, z_notI, z_isB1, z_m1, z_pos, z_pos', z_nlt, z_nle', z_m1le, z_m1a, z_nle, z_sI0, z_sI1, z_sI2, z_sI3, z_sJ0, z_sJ1, z_sJ2, z_sJ3, z_sF0, z_sF1, z_sF2, z_sA0, z_sA1, z_sA2, z_sA3, z_sAA, z_sIA, ↓reduceIte, Nat.reduceEqDiff, Nat.reduceLeDiff, Nat.reduceLT, z_l0, z_l1, z_l2, z_l3, z_l4, z_l5, z_l6, z_l7, z_l8, z_l9, z_l10, z_l11, z_l12, z_l13, z_l14, z_l15, z_l16, z_l17, z_l18, z_l19, z_l20, z_l21, z_l22, z_l23, z_l24, z_l25, z_l26, z_l27, z_l28, z_l32, z_l48, z_l56, z_l57, z_l59, z_l63, z_l64, z_l96, z_l97, z_l122, z_l127, z_l152, z_l158, z_l182, z_l255, z_l256, z_l310, z_l342, z_l406, z_l440, z_l729, z_l800, z_l3960, z_l14336, z_l14592, z_l100000, hxy, l1, l2, e1, e2]
    · rw [h1, if_pos rfl] at e1
      rw [if_pos (by simp)]
      simp (disch := omega) only [z_gt, z_o1, z_o2, z_o3, z_o4, z_o5, z_o6, z_o7, z_o8, z_o9, z_bn, z_jn, nI_add, z_mul, z_sub, z_div, Nat.not_lt_zero, z_cl, z_le, z_lt, z_eq, z_inb, z_nz, z_isB0, z_notJ, z_notI, z_isB1, z_m1, z_pos, z_pos', z_nlt, z_nle', z_m1le, z_m1a, z_nle, z_sI0, z_sI1, z_sI2, z_sI3, z_sJ0, z_sJ1, z_sJ2, z_sJ3, z_sF0, z_sF1, z_sF2, z_sA0, z_sA1, z_sA2, z_sA3, z_sAA, z_sIA, ↓reduceIte, Nat.reduceEqDiff, Nat.reduceLeDiff, Nat.reduceLT, z_l0, z_l1, z_l2, z_l3, z_l4, z_l5, z_l6, z_l7, z_l8, z_l9, z_l10, z_l11, z_l12, z_l13, z_l14, z_l15, z_l16, z_l17, z_l18, z_l19, z_l20, z_l21, z_l22, z_l23, z_l24, z_l25, z_l26, z_l27, z_l28, z_l32, z_l48, z_l56, z_l57, z_l59, z_l63, z_l64, z_l96, z_l97, z_l122, z_l127, z_l152, z_l158, z_l182, z_l255, z_l256, z_l310, z_l342, z_l406, z_l440, z_l729, z_l800, z_l3960, z_l14336, z_l14592, z_l100000, hxy, l1, l2, e1]
theorem j_br {B : Nat → Nat} {M a t : Nat} {v0 vD vC vT vM : Vs} {q : Nat → Int32} (ht1 : t ≤ 1) (hD : CH B M (rn isSp B M a) vD) (hMM : MH B M v0 q a vM) (hG : GR q vC vT) (hS : SN2 q) (hZ : ZC q vC) (h8 : NB q < 8) : JC B M v0 a vT (XB vC vT (nI t) vD) (RB (nI t) vM) := by
  obtain ⟨hw, ht, hC, hT⟩ := id hG
  have hnf := hw.nf
  have hW1 : 1 ≤ NW q := by have := hw.1.2.1; have := hw.2.1.2.1; omega
  have hsM := rn_le isSp B hMM.2.2.1
  have hsa := rn_ge isSp B M a
  have tn : ¬ nI t = (-1 : Int32) := fun z => (z_pos' (show t < 2147483648 by omega)).mp z
  obtain ⟨a1, a2⟩ := hMM.wire (W := NW q) hw.2.1.1 hW1 hnf.2.1
  obtain ⟨b1, b2⟩ := hD.wire (vT := vT) hC.1.2.1 hnf.2.1
  obtain ⟨s, hs⟩ : ∃ s, s = rn isSp B M a := ⟨_, rfl⟩
  rw [← hs] at a1 a2 b1 b2 hD hsM hsa
  have f1 : ∀ v' v2 c, f_X5_isKnownWire vD vC vT = some (nI 0, v') → CF v' c (nI s) → f_X8_readsWire vM = some (nI 0, v2) → FL v0 v2 c (nI s) → c ≠ 0 → JC B M v0 a vT (XB vC vT (nI t) vD) (RB (nI t) vM) := fun v' v2 c e1 C e2 F hc => by
    refine Or.inr ⟨v', vC, v2, c, nI s, ?_, ?_, C, F, hc⟩
    · unfold XB
      rw [e1, z_o2, if_pos (show nI 0 = (0 : Int32) from rfl)]
      rfl
    · unfold RB
      rw [if_neg tn, e2, z_o2, if_pos (show nI 0 = (0 : Int32) from rfl)]
      rfl
  by_cases hk : tkind B M s = 2
  · have a2 := a2 hk
    have b2 := b2 hk
    obtain ⟨x, hx⟩ : ∃ x, x = nmC B s (tend B M s - s) := ⟨_, rfl⟩
    rw [← hx] at a2 b2
    by_cases hxW : x < NW q
    · obtain ⟨e1, d9⟩ := b2.1 hxW
      obtain ⟨v1, e2, M1, u17, u18, -⟩ := a2.1 hxW
      have ht2 := tend_le (B := B) hsM
      obtain ⟨vD2, eA, hD2⟩ := hD.adv hsM
      obtain ⟨a3, a4⟩ := M1.wire (W := NW q) hw.2.1.1 hW1 hnf.2.1
      obtain ⟨b3, b4⟩ := hD2.wire (vT := vT) hC.1.2.1 hnf.2.1
      have hs2M := rn_le isSp B (p := tend B M s) ht2.2
      have hs2a := rn_ge isSp B M (tend B M s)
      obtain ⟨s2, hs2⟩ : ∃ s2, s2 = rn isSp B M (tend B M s) := ⟨_, rfl⟩
      rw [← hs2] at a3 a4 b3 b4 hD2 hs2M hs2a
      have f2 : ∀ v' v2 c, f_X5_isKnownWire vD2 vC vT = some (nI 0, v') → CF v' c (nI s2) → f_X8_readsWire v1 = some (nI 0, v2) → FL v0 v2 c (nI s2) → c ≠ 0 → JC B M v0 a vT (XB vC vT (nI t) vD) (RB (nI t) vM) := fun v' v2 c e3 C e4 F hc => by
        refine Or.inr ⟨v', vC, v2, c, nI s2, ?_, ?_, C, F, hc⟩
        · unfold XB
          rw [e1, z_o2, if_neg (show ¬ nI 1 = (0 : Int32) by decide), eA, z_o1, e3, z_o2, if_pos (show nI 0 = (0 : Int32) from rfl)]
          rfl
        · unfold RB
          rw [if_neg tn, e2, z_o2, if_neg (show ¬ nI 1 = (0 : Int32) by decide), e4, z_o2, if_pos (show nI 0 = (0 : Int32) from rfl)]
          rfl
      by_cases hk2 : tkind B M s2 = 2
      · have a4 := a4 hk2
        have b4 := b4 hk2
        obtain ⟨y, hy⟩ : ∃ y, y = nmC B s2 (tend B M s2 - s2) := ⟨_, rfl⟩
        rw [← hy] at a4 b4
        by_cases hyW : y < NW q
        · obtain ⟨e3, d92⟩ := b4.1 hyW
          obtain ⟨v2, e4, M2, w17, w18, -⟩ := a4.1 hyW
          have eL := x_loop hw hC hxW hyW
          obtain ⟨g1, g2⟩ := h_depends M2 hw hxW hyW
          obtain ⟨g3, g4⟩ := h_depends (M2.s19 g1) hw hyW hxW
          rw [z_sAA] at g4
          have bad : ∀ v3, MH B M v0 q (tend B M s2) v3 → v3.1 18 = nI s2 → (x = y ∨ dep q y x = true ∨ dep q x y = true) → RB (nI t) vM = o2 (f_X8_fails v3 (-5) (v3.1 18)) (fun r v => gd (isB r) (some (r, v))) → JC B M v0 a vT (XB vC vT (nI t) vD) (RB (nI t) vM) := fun v3 M3 h18 hl eR => by
            obtain ⟨v4, e5, F4⟩ := h_fails M3.2.2.2.1 M3.2.2.2.2.2.2 (-5) (nI s2)
            obtain ⟨v5, e6, C5⟩ := hD2.fail (-5)
            rw [if_pos hl] at eL
            refine Or.inr ⟨v5, vC, v4, -5, nI s2, ?_, by rw [eR, h18, e5]; rfl, C5, F4, by decide⟩
            unfold XB
            rw [e1, z_o2, if_neg (show ¬ nI 1 = (0 : Int32) by decide), eA, z_o1, e3, z_o2, if_neg (show ¬ nI 1 = (0 : Int32) by decide), d9, d92, eL, z_o1, if_neg (show ¬ nI 1 = (0 : Int32) by decide), e6]
            rfl
          by_cases hxy : x = y
          · refine bad v2 M2 w18 (Or.inl hxy) ?_
            unfold RB
            rw [if_neg tn, e2, z_o2, if_neg (show ¬ nI 1 = (0 : Int32) by decide), e4, z_o2, if_neg (show ¬ nI 1 = (0 : Int32) by decide), z_jn, u17, w17, iet hxy]
          · have hyx : ¬ y = x := fun z => hxy z.symm
            rw [decide_eq_true hxy, Bool.true_and] at g2
            rw [decide_eq_true hyx, Bool.true_and] at g4
            have pre : RB (nI t) vM = (if b01 (dep q y x) = 0 then o2 (f_X8_dependsOn (sA v2 19 g1) ((sA v2 19 g1).1 17) (nI x)) (fun (r34 : Int32) (vM_35 : Vs) => if r34 = 0 then gd (inb (3 : Int32) 440) (bn (((158 : Int32) + ((3 : Int32) * (vM_35.2.1 2 ((3 : Int32)).toNatClampNeg)))) (fun (y39 : Int32) => gd (inb y39 440) (bn (sI vM_35 2 (y39).toNatClampNeg (nI t)) (fun (vM_41 : Vs) => gd (inb (y39 + (1 : Int32)) 440) (bn (sI vM_41 2 ((y39 + (1 : Int32))).toNatClampNeg (nI x)) (fun (vM_43 : Vs) => gd (inb (y39 + (2 : Int32)) 440) (bn (sI vM_43 2 ((y39 + (2 : Int32))).toNatClampNeg (vM_43.1 17)) (fun (vM_45 : Vs) => gd (inb (3 : Int32) 440) (gd (inb (3 : Int32) 440) (bn (sI vM_45 2 ((3 : Int32)).toNatClampNeg ((vM_45.2.1 2 ((3 : Int32)).toNatClampNeg) + (1 : Int32))) (fun (vM_48 : Vs) => gd (isB (1 : Int32)) (some ((1 : Int32), vM_48))))))))))))) else o2 (f_X8_fails vM_35 (-5) (vM_35.1 18)) (fun r v => gd (isB r) (some (r, v)))) else o2 (f_X8_fails (sA v2 19 g1) (-5) ((sA v2 19 g1).1 18)) (fun r v => gd (isB r) (some (r, v)))) := by
              unfold RB
              rw [if_neg tn, e2, z_o2, if_neg (show ¬ nI 1 = (0 : Int32) by decide), e4, z_o2, if_neg (show ¬ nI 1 = (0 : Int32) by decide), z_jn, u17, w17, ief hxy (by omega) (by omega), g2, z_o2]
            cases h1 : dep q y x
            · rw [h1, if_pos (show b01 false = 0 by decide), z_sA0, w17, g4, z_o2] at pre
              cases h2 : dep q x y
              · rw [h2, if_pos (show b01 false = 0 by decide)] at pre
                have M3 := M2.s19 g3
                have r3 : (sA v2 19 g3).2.1 2 3 = nI (NB q) := by rw [M3.2.2.2.2.2.1 3 (by omega)]; exact hw.2.2.2.1.1
                rw [h1, h2, if_neg (by simp [hxy])] at eL
                obtain ⟨vC2, eP, G2, eA9, eNW⟩ := put_bridge hG h8 ht1 hxW hyW
                obtain ⟨vD3, eA3, hD3⟩ := hD2.adv hs2M
                have M4 := (((M3.put (158 + 3 * NB q) (nI t)).put (158 + 3 * NB q + 1) (nI x)).put (158 + 3 * NB q + 2) (nI y)).put 3 (nI (NB q + 1))
                refine Or.inl ⟨vD3, vC2, _, brQ q t x y, tend B M s2, ?_, ?_, hD3, M4, G2, fun k h1 h2 => ?_, hZ.of eNW eA9, by have := tend_le (B := B) hs2M; omega⟩
                · unfold XB
                  rw [e1, z_o2, if_neg (show ¬ nI 1 = (0 : Int32) by decide), eA, z_o1, e3, z_o2, if_neg (show ¬ nI 1 = (0 : Int32) by decide), d9, d92, eL, z_o1, if_pos (show nI 0 = (0 : Int32) from rfl), eP, z_o1, eA3, z_o1]
                · have t3 : ((3 : Int32)).toNatClampNeg = 3 := rfl
                  have i3 : inb (3 : Int32) 440 = true := by decide
                  rw [pre, i3, z_gt, z_bn, t3, r3, z_l158, z_l3, z_mul, nI_add, z_inb (by omega) (by omega), z_gt, z_bn, z_cl (by omega), z_l1, nI_add, z_inb (by omega) (by omega), z_gt, z_bn, z_cl (by omega), z_l2, nI_add, z_inb (by omega) (by omega), z_gt, z_bn, z_cl (by omega)]
                  have e17 : (sI (sI (sA v2 19 g3) 2 (158 + 3 * NB q) (nI t)) 2 (158 + 3 * NB q + 1) (nI x)).1 17 = nI y := w17
                  have e3' : (sI (sI (sI (sA v2 19 g3) 2 (158 + 3 * NB q) (nI t)) 2 (158 + 3 * NB q + 1) (nI x)) 2 (158 + 3 * NB q + 2) (nI y)).2.1 2 3 = nI (NB q) := by
                    rw [z_sI2, z_u2 _ _ (by omega), z_sI2, z_u2 _ _ (by omega), z_sI2, z_u2 _ _ (by omega)]
                    exact r3
                  simp only [e17, i3, e3', z_gt, z_bn, nI_add, z_cl (show 3 < 2147483648 by omega)]
                  rfl
                · unfold brQ
                  rw [z_u2 _ _ (by omega), z_u2 _ _ (by omega), z_u2 _ _ (by omega), z_u2 _ _ (by omega)]
                  exact hS k h1 h2
              · rw [h2, if_neg (show ¬ b01 true = 0 by decide)] at pre
                exact bad _ (M2.s19 g3) w18 (Or.inr (Or.inr h2)) pre
            · rw [h1, if_neg (show ¬ b01 true = 0 by decide)] at pre
              exact bad _ (M2.s19 g1) w18 (Or.inr (Or.inl h1)) pre
        · obtain ⟨v3, e3, C3⟩ := b4.2 hyW
          obtain ⟨v4, e4, F4⟩ := a4.2 hyW
          exact f2 v3 v4 (-3) e3 C3 e4 F4 (by decide)
      · obtain ⟨v3, e3, C3⟩ := b3 hk2
        obtain ⟨v4, e4, F4⟩ := a3 hk2
        exact f2 v3 v4 (-2) e3 C3 e4 F4 (by decide)
    · obtain ⟨v3, e3, C3⟩ := b2.2 hxW
      obtain ⟨v4, e4, F4⟩ := a2.2 hxW
      exact f1 v3 v4 (-3) e3 C3 e4 F4 (by decide)
  · obtain ⟨v3, e3, C3⟩ := b1 hk
    obtain ⟨v4, e4, F4⟩ := a1 hk
    exact f1 v3 v4 (-2) e3 C3 e4 F4 (by decide)
