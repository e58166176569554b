/-! reading a test, on both sides -/
def JT (B : Nat → Nat) (M : Nat) (v0 : Vs) (a : Nat) (vC : Vs) (X : Option (Int32 × Vs × Vs)) (Y : Option (Int32 × Vs)) : Prop :=
  (∃ vD' vT' vM' q' a', X = o2 (f_X5_readSemicolon vD') (fun r v => gd (isB r) (some (r, v, vT'))) ∧ Y = some (nI 1, vM') ∧ CH B M (rn isSp B M a') vD' ∧ MH B M v0 q' a' vM' ∧ GR q' vC vT' ∧ SN2 q' ∧ ZC q' vC ∧ a ≤ a') ∨
  (∃ vD' vT' vM' c x, X = some (nI 0, vD', vT') ∧ Y = some (nI 0, vM') ∧ CF vD' c x ∧ FL v0 vM' c x ∧ c ≠ 0)
theorem JT.mono {B : Nat → Nat} {M : Nat} {v0 : Vs} {a b : Nat} {vC : Vs} {X X' : Option (Int32 × Vs × Vs)} {Y Y' : Option (Int32 × Vs)} (h : JT B M v0 b vC X Y) (hab : a ≤ b) (hX : X' = X) (hY : Y' = Y) : JT B M v0 a vC X' Y' := by
  subst hX hY
  rcases h with ⟨vD', vC', vM', q', a', e1, e2, x1, x2, x3, x4, x6, x5⟩ | h
  · exact Or.inl ⟨vD', vC', vM', q', a', e1, e2, x1, x2, x3, x4, x6, by omega⟩
  · exact Or.inr h
theorem fq_hi {a d i j : Nat} (ha : a < 2 ^ i) (hd : d ≤ 1) : fq (a + 2 ^ i * d) j = if j < i then fq a j else if j = i then d else 0 := by
  have h := Nat.testBit_two_pow_mul_add d ha j
  rw [Nat.add_comm] at h
  rw [fq_bit, fq_bit, fq_bit] at h
  have f1 := fq_1 (a + 2 ^ i * d) j
  have f2 := fq_1 a j
  by_cases c : j < i
  · rw [if_pos c] at h ⊢
    rw [decide_eq_decide] at h
    omega
  · rw [if_neg c] at h ⊢
    rw [decide_eq_decide] at h
    by_cases e : j = i
    · rw [if_pos e]
      have : fq d (j - i) = d := by
        rw [e, Nat.sub_self]
        unfold fq
        omega
      rw [this] at h
      omega
    · rw [if_neg e]
      have : fq d (j - i) = 0 := by
        unfold fq
        have : d / 2 ^ (j - i) = 0 := Nat.div_eq_of_lt (by
          have : 2 ^ 1 ≤ 2 ^ (j - i) := Nat.pow_le_pow_right (by omega) (by omega)
          omega)
        rw [this]
      rw [this] at h
      omega
theorem or_sh {a d i : Nat} (ha : a < 2 ^ i) (hd : d ≤ 1) (hi : i < 8) : nI a ||| (nI d <<< (nI i &&& 31)) = nI (a + 2 ^ i * d) := by
  have : d = 0 ∨ d = 1 := by omega
  rcases this with rfl | rfl
  · have e : ∀ i, i < 8 → (nI 0 <<< (nI i &&& 31) : Int32) = 0 := by decide
    rw [e i hi, Int32.or_zero, Nat.mul_zero, Nat.add_zero]
  · rw [g_shl _ (by omega), g_or2 ha, Nat.mul_one]
/-- cells of the new test that are read -/
def TP (q r : Nat → Int32) (i a b : Nat) : Prop := (∀ k, k < 440 → (∀ j, j < i → k ≠ 182 + 8 * NT q + j) → r k = q k) ∧ (∀ j, j < i → r (182 + 8 * NT q + j) = nI (if fq b j = 1 then 2 else fq a j)) ∧ a < 2 ^ i ∧ b < 2 ^ i ∧ ∀ j, ¬ (fq a j = 1 ∧ fq b j = 1)
theorem j_tests {B : Nat → Nat} {M : Nat} {v0 vC vT : Vs} {q : Nat → Int32} (hG : GR q vC vT) (hS : SN2 q) (hZ : ZC q vC) (h16 : NT q < 16) : ∀ m i a x y r vD vM (k1 k2 : Nat), NI q - i < m → m ≤ k1 → m ≤ k2 → i ≤ NI q → TP q r i x y → CH B M (rn isSp B M a) vD → MH B M v0 r a vM → JT B M v0 a vC (lp (f_X5_readTest_L30 vC vT) (fun _ _ _ _ => none) k1 (nI x) (nI y) (nI i) vD) (lp (f_X8_readsTest_L35 (nI (182 + 8 * NT q))) (fun _ _ => none) k2 (nI i) vM)
  | 0, i, a, x, y, r, vD, vM, k1, k2, h, _, _, _, _, _, _ => by omega
  | m + 1, i, a, x, y, r, vD, vM, k1, k2, h, g1, g2, hi, hP, hD, hMM => by
    obtain ⟨k1, rfl⟩ : ∃ k, k1 = k + 1 := ⟨k1 - 1, by omega⟩
    obtain ⟨k2, rfl⟩ : ∃ k, k2 = k + 1 := ⟨k2 - 1, by omega⟩
    show JT B M v0 a vC (f_X5_readTest_L30 vC vT (lp (f_X5_readTest_L30 vC vT) (fun _ _ _ _ => none) k1) (nI x) (nI y) (nI i) vD) (f_X8_readsTest_L35 (nI (182 + 8 * NT q)) (lp (f_X8_readsTest_L35 (nI (182 + 8 * NT q))) (fun _ _ => none) k2) (nI i) vM)
    obtain ⟨hw, ht, hC, hT⟩ := id hG
    obtain ⟨p1, p2, p3, p4, p5⟩ := id hP
    have hnf := hw.nf
    have haM := hMM.2.2.1
    have hsa := rn_ge isSp B M a
    have hsM := rn_le isSp B haM
    have r0 : vM.2.1 2 0 = nI (NI q) := by rw [hMM.2.2.2.2.2.1 0 (by omega), p1 0 (by omega) (fun j hj => by omega)]; exact hw.1.1
    have r4 : vM.2.1 2 4 = nI (NT q) := by rw [hMM.2.2.2.2.2.1 4 (by omega), p1 4 (by omega) (fun j hj => by omega)]; exact ht.1.1
    have t0 : ((0 : Int32)).toNatClampNeg = 0 := rfl
    have t4 : ((4 : Int32)).toNatClampNeg = 4 := rfl
    by_cases hb : NI q ≤ i
    · have hiN : i = NI q := by omega
      -- all inputs are read
      have M2 := hMM.put 4 (nI (NT q + 1))
      obtain ⟨s, hs⟩ : ∃ s, s = upd r 4 (nI (NT q + 1)) := ⟨_, rfl⟩
      rw [← hs] at M2
      have hA : ADD q s x y := by
        refine ⟨fun k h1 h2 h3 => ?_, by rw [hs, z_u1 _ _ rfl], fun j hj => ?_, fun o ho => ?_⟩
        · rw [hs, z_u2 _ _ h2]
          exact p1 k h1 (fun j hj => h3.1 j (by omega))
        · rw [hs, z_u2 _ _ (by omega)]
          exact p2 j (by omega)
        · rw [hs, z_u2 _ _ (by omega), p1 _ (by omega) (fun j hj => by omega)]
          exact hS _ (by omega) (by omega)
      have hxy : x &&& y = 0 := by
        apply Nat.eq_of_testBit_eq
        intro j
        rw [Nat.testBit_and, fq_bit, fq_bit, Nat.zero_testBit]
        have := p5 j
        by_cases c : fq x j = 1
        · have c2 : ¬ fq y j = 1 := fun z => this ⟨c, z⟩
          simp [c2]
        · simp [c]
      obtain ⟨ws, ts, hlow, eNT, vT', eP, hT'⟩ := add_ok hw ht h16 hxy hA hT
      refine Or.inl ⟨vD, vT', sI vM 2 4 (nI (NT q + 1)), s, a, ?_, ?_, hD, M2, ⟨ws, ts, hC.of hw hlow, hT'⟩, fun k h1 h2 => ?_, hZ.of (show nn (s 1) = nn (q 1) by rw [hlow 1 (by omega) (by omega)]) (fun _ _ _ => rfl), Nat.le_refl _⟩
      · unfold f_X5_readTest_L30
        rw [hC.1.1, ift hb (by omega), eP, z_o1]
      · unfold f_X8_readsTest_L35
        rw [show inb (0 : Int32) 440 = true by decide, z_gt, t0, r0, ift hb (by omega), show inb (4 : Int32) 440 = true by decide, z_gt, z_gt, z_bn, t4, r4, z_p1]
        rfl
      · rw [hs, z_u2 _ _ (by omega), p1 _ (by omega) (fun j hj => by omega)]
        exact hS k h1 h2
    · have hlt : i < NI q := by omega
      have hi8 : i < 8 := by omega
      have p3' : 2 ^ i ≤ 128 := show 2 ^ i ≤ 2 ^ 7 from Nat.pow_le_pow_right (by omega) (by omega)
      have eW := x_isWord hD.1 hD.2.1 hsM (i := 23) (by decide)
      obtain ⟨v1, e1, M1, A1⟩ := hMM.takes (i := 23) (by decide)
      have hr0 : ∀ v : Vs, v.2 = vM.2 → v.2.1 2 0 = nI (NI q) := fun v hv => by rw [hv]; exact r0
      have Ystep : ∀ (K : Option (Int32 × Vs)), f_X8_readsTest_L35 (nI (182 + 8 * NT q)) (lp (f_X8_readsTest_L35 (nI (182 + 8 * NT q))) (fun _ _ => none) k2) (nI i) vM = K ↔ o2 (f_X8_takes vM 23) (fun (r18 : Int32) (vM_19 : Vs) => jn (fun (vM_21 : Vs) => jn (fun (t24 : Int32) => gd (inb (nI (182 + 8 * NT q) + nI i) 440) (bn (sI vM_21 2 ((nI (182 + 8 * NT q) + nI i)).toNatClampNeg t24) (fun (vM_28 : Vs) => lp (f_X8_readsTest_L35 (nI (182 + 8 * NT q))) (fun _ _ => none) k2 (nI i + (1 : Int32)) vM_28))) (fun k25 => if r18 = 0 then k25 (vM_21.1 17) else k25 (2 : Int32))) (fun k22 => if r18 = 0 then o2 (f_X8_reads vM_19 (0 : Int32) (1 : Int32)) (fun (r33 : Int32) (vM_34 : Vs) => if r33 = 0 then gd (isB (0 : Int32)) (some ((0 : Int32), vM_34)) else k22 vM_34) else k22 vM_19)) = K := fun K => by
        unfold f_X8_readsTest_L35
        rw [show inb (0 : Int32) 440 = true by decide, z_gt, t0, r0, iff_ hb (by omega)]
      obtain ⟨s, hs⟩ : ∃ s, s = rn isSp B M a := ⟨_, rfl⟩
      rw [← hs] at hD hsa hsM eW e1 M1 A1
      have hrr : rn isSp B M s = s := by rw [hs]; exact rn_rn _ _ _ _
      have ht2 := tend_le (B := B) hsM
      obtain ⟨vD2, eA, hD2⟩ := hD.adv hsM
      have cellin : inb (nI (182 + 8 * NT q + i)) 440 = true := z_inb (by omega) (by omega)
      -- one more cell
      have next : ∀ d e, d ≤ 1 → e ≤ 1 → ¬ (d = 1 ∧ e = 1) → TP q (upd r (182 + 8 * NT q + i) (nI (if e = 1 then 2 else d))) (i + 1) (x + 2 ^ i * d) (y + 2 ^ i * e) := fun d e hd he hde => by
        have pw : 2 ^ (i + 1) = 2 * 2 ^ i := by rw [Nat.pow_succ, Nat.mul_comm]
        have dd : 2 ^ i * d ≤ 2 ^ i := by
          have := Nat.mul_le_mul_left (2 ^ i) hd
          omega
        have ee : 2 ^ i * e ≤ 2 ^ i := by
          have := Nat.mul_le_mul_left (2 ^ i) he
          omega
        refine ⟨fun k h1 h2 => ?_, fun j hj => ?_, by omega, by omega, fun j => ?_⟩
        · rw [z_u2 _ _ (h2 i (by omega))]
          exact p1 k h1 (fun j hj => h2 j (by omega))
        · rw [fq_hi p3 hd, fq_hi p4 he]
          by_cases c : j = i
          · have nj : ¬ j < i := by omega
            rw [z_u1 _ _ (by omega), if_neg nj, if_neg nj, if_pos c, if_pos c]
          · have pj : j < i := by omega
            rw [z_u2 _ _ (by omega), if_pos pj, if_pos pj]
            exact p2 j pj
        · rw [fq_hi p3 hd, fq_hi p4 he]
          by_cases c : j < i
          · rw [if_pos c, if_pos c]; exact p5 j
          · rw [if_neg c, if_neg c]
            by_cases c2 : j = i
            · rw [if_pos c2, if_pos c2]; exact hde
            · rw [if_neg c2, if_neg c2]; omega
      have hx31 : x < 2147483648 := by omega
      by_cases hW : isW B M s 23 = true
      · rw [if_pos hW] at e1 M1 eW
        have M3 := M1.put (182 + 8 * NT q + i) (nI 2)
        have hn := next 0 1 (by omega) (by omega) (by omega)
        rw [if_pos rfl, Nat.mul_zero, Nat.add_zero, Nat.mul_one] at hn
        refine JT.mono (j_tests hG hS hZ h16 m (i + 1) (tend B M s) x (y + 2 ^ i) _ vD2 _ k1 k2 (by omega) (by omega) (by omega) (by omega) hn hD2 M3) (by omega) ?_ ?_
        · have eo := or_sh p4 (show 1 ≤ 1 by omega) hi8
          rw [Nat.mul_one] at eo
          unfold f_X5_readTest_L30
          have hb' : ¬ NI q ≤ i := hb
          simp (disch := omega) only [z_gt, z_o1, z_o2, z_o3, z_o4, z_o5, z_o6, z_o7, z_o8, z_o9, z_bn, z_jn, nI_add, z_mul, z_sub, z_div, Nat.not_lt_zero, z_cl, z_le, z_lt, z_eq, z_inb, z_nz, z_isB0, z_notJ, z_notI, z_isB1, z_m1, z_pos, z_pos', z_nlt, z_nle', z_m1le, z_m1a, z_nle, z_sI0, z_sI1, z_sI2, z_sI3, z_sJ0, z_sJ1, z_sJ2, z_sJ3, z_sF0, z_sF1, z_sF2, z_sA0, z_sA1, z_sA2, z_sA3, z_sAA, z_sIA, ↓reduceIte, Nat.reduceEqDiff, Nat.reduceLeDiff, Nat.reduceLT, z_l0, z_l1, z_l2, z_l3, z_l4, z_l5, z_l6, z_l7, z_l8, z_l9, z_l10, z_l11, z_l12, z_l13, z_l14, z_l15, z_l16, z_l17, z_l18, z_l19, z_l20, z_l21, z_l22, z_l23, z_l24, z_l25, z_l26, z_l27, z_l28, z_l32, z_l48, z_l56, z_l57, z_l59, z_l63, z_l64, z_l96, z_l97, z_l122, z_l127, z_l152, z_l158, z_l182, z_l255, z_l256, z_l310, z_l342, z_l406, z_l440, z_l729, z_l800, z_l3960, z_l14336, z_l14592, z_l100000, hC.1.1, hb', eW, eo, eA]
        · refine (Ystep _).mpr ?_
          simp (disch := omega) only [z_gt, z_o1, z_o2, z_o3, z_o4, z_o5, z_o6, z_o7, z_o8, z_o9, z_bn, z_jn, nI_add, z_mul, z_sub, z_div, Nat.not_lt_zero, z_cl, z_le, z_lt, z_eq, z_inb, z_nz, z_isB0, z_notJ, z_notI, z_isB1, z_m1, z_pos, z_pos', z_nlt, z_nle', z_m1le, z_m1a, z_nle, z_sI0, z_sI1, z_sI2, z_sI3, z_sJ0, z_sJ1, z_sJ2, z_sJ3, z_sF0, z_sF1, z_sF2, z_sA0, z_sA1, z_sA2, z_sA3, z_sAA, z_sIA, ↓reduceIte, Nat.reduceEqDiff, Nat.reduceLeDiff, Nat.reduceLT, z_l0, z_l1, z_l2, z_l3, z_l4, z_l5, z_l6, z_l7, z_l8, z_l9, z_l10, z_l11, z_l12, z_l13, z_l14, z_l15, z_l16, z_l17, z_l18, z_l19, z_l20, z_l21, z_l22, z_l23, z_l24, z_l25, z_l26, z_l27, z_l28, z_l32, z_l48, z_l56, z_l57, z_l59, z_l63, z_l64, z_l96, z_l97, z_l122, z_l127, z_l152, z_l158, z_l182, z_l255, z_l256, z_l310, z_l342, z_l406, z_l440, z_l729, z_l800, z_l3960, z_l14336, z_l14592, z_l100000, e1, cellin]
      · rw [if_neg hW] at e1 M1 eW
        obtain ⟨n1, n2⟩ := M1.reads (l := 0) (hi := 1) (by omega) (by omega)
        rw [hrr] at n1 n2
        by_cases hk : tkind B M s = 2
        · have n2 := n2 hk
          obtain ⟨z1, z2⟩ := nm_lt (K := 2) hk (by omega)
          obtain ⟨z0, zb⟩ := nm_CR (B := B) (p := s) (tend B M s - s) (fun i h1 h2 => rn_in (c := isDg) (M := M) h1 (by rw [← (tk2 (B := B) (M := M) (s := s)).2 hk]; omega))
          obtain ⟨w, hwn⟩ : ∃ w, w = nmR B s (tend B M s - s) := ⟨_, rfl⟩
          have d7 : vD.1 7 = nI 2 := by rw [hD.2.1.2.1, hk]
          have d9 := hD.2.1.2.2.2 hk
          have hC5 := nmC_le B s (tend B M s - s)
          rw [← hwn] at n2 z1 z2
          by_cases hw2 : w < 2
          · obtain ⟨v2, e2, M2, u17, u18, u2⟩ := n2.1 ⟨by omega, by omega⟩
            have M3 := M2.put (182 + 8 * NT q + i) (nI w)
            have hn := next w 0 (by omega) (by omega) (by omega)
            rw [if_neg (by omega), Nat.mul_zero, Nat.add_zero] at hn
            rw [z2 hw2] at d9
            refine JT.mono (j_tests hG hS hZ h16 m (i + 1) (tend B M s) (x + 2 ^ i * w) y _ vD2 _ k1 k2 (by omega) (by omega) (by omega) (by omega) hn hD2 M3) (by omega) ?_ ?_
            · have eo := or_sh p3 (show w ≤ 1 by omega) hi8
              have w1 : w ≤ 1 := by omega
              unfold f_X5_readTest_L30
              have hb' : ¬ NI q ≤ i := hb
              simp (disch := omega) only [z_gt, z_o1, z_o2, z_o3, z_o4, z_o5, z_o6, z_o7, z_o8, z_o9, z_bn, z_jn, nI_add, z_mul, z_sub, z_div, Nat.not_lt_zero, z_cl, z_le, z_lt, z_eq, z_inb, z_nz, z_isB0, z_notJ, z_notI, z_isB1, z_m1, z_pos, z_pos', z_nlt, z_nle', z_m1le, z_m1a, z_nle, z_sI0, z_sI1, z_sI2, z_sI3, z_sJ0, z_sJ1, z_sJ2, z_sJ3, z_sF0, z_sF1, z_sF2, z_sA0, z_sA1, z_sA2, z_sA3, z_sAA, z_sIA, ↓reduceIte, Nat.reduceEqDiff, Nat.reduceLeDiff, Nat.reduceLT, z_l0, z_l1, z_l2, z_l3, z_l4, z_l5, z_l6, z_l7, z_l8, z_l9, z_l10, z_l11, z_l12, z_l13, z_l14, z_l15, z_l16, z_l17, z_l18, z_l19, z_l20, z_l21, z_l22, z_l23, z_l24, z_l25, z_l26, z_l27, z_l28, z_l32, z_l48, z_l56, z_l57, z_l59, z_l63, z_l64, z_l96, z_l97, z_l122, z_l127, z_l152, z_l158, z_l182, z_l255, z_l256, z_l310, z_l342, z_l406, z_l440, z_l729, z_l800, z_l3960, z_l14336, z_l14592, z_l100000, hC.1.1, hb', eW, d7, d9, w1, eo, eA]
            · refine (Ystep _).mpr ?_
              simp (disch := omega) only [z_gt, z_o1, z_o2, z_o3, z_o4, z_o5, z_o6, z_o7, z_o8, z_o9, z_bn, z_jn, nI_add, z_mul, z_sub, z_div, Nat.not_lt_zero, z_cl, z_le, z_lt, z_eq, z_inb, z_nz, z_isB0, z_notJ, z_notI, z_isB1, z_m1, z_pos, z_pos', z_nlt, z_nle', z_m1le, z_m1a, z_nle, z_sI0, z_sI1, z_sI2, z_sI3, z_sJ0, z_sJ1, z_sJ2, z_sJ3, z_sF0, z_sF1, z_sF2, z_sA0, z_sA1, z_sA2, z_sA3, z_sAA, z_sIA, ↓reduceIte, Nat.reduceEqDiff, Nat.reduceLeDiff, Nat.reduceLT, z_l0, z_l1, z_l2, z_l3, z_l4, z_l5, z_l6, z_l7, z_l8, z_l9, z_l10, z_l11, z_l12, z_l13, z_l14, z_l15, z_l16, z_l17, z_l18, z_l19, z_l20, z_l21, z_l22, z_l23, z_l24, z_l25, z_l26, z_l27, z_l28, z_l32, z_l48, z_l56, z_l57, z_l59, z_l63, z_l64, z_l96, z_l97, z_l122, z_l127, z_l152, z_l158, z_l182, z_l255, z_l256, z_l310, z_l342, z_l406, z_l440, z_l729, z_l800, z_l3960, z_l14336, z_l14592, z_l100000, e1, e2, cellin, u17]
          · obtain ⟨v2, e2, F2⟩ := n2.2 (by omega)
            obtain ⟨v3, e3, C3⟩ := hD.fail (-3)
            have e3' : f_X5_fail vD (-nI 3) = some (nI 0, v3) := e3
            have c1 : ¬ nmC B s (tend B M s - s) ≤ 1 := fun z => hw2 (z1.mp (by omega))
            refine Or.inr ⟨v3, vT, v2, -3, nI s, ?_, ?_, C3, F2, by decide⟩
            · unfold f_X5_readTest_L30
              have hb' : ¬ NI q ≤ i := hb
              simp (disch := omega) only [z_gt, z_o1, z_o2, z_o3, z_o4, z_o5, z_o6, z_o7, z_o8, z_o9, z_bn, z_jn, nI_add, z_mul, z_sub, z_div, Nat.not_lt_zero, z_cl, z_le, z_lt, z_eq, z_inb, z_nz, z_isB0, z_notJ, z_notI, z_isB1, z_m1, z_pos, z_pos', z_nlt, z_nle', z_m1le, z_m1a, z_nle, z_sI0, z_sI1, z_sI2, z_sI3, z_sJ0, z_sJ1, z_sJ2, z_sJ3, z_sF0, z_sF1, z_sF2, z_sA0, z_sA1, z_sA2, z_sA3, z_sAA, z_sIA, ↓reduceIte, Nat.reduceEqDiff, Nat.reduceLeDiff, Nat.reduceLT, z_l0, z_l1, z_l2, z_l3, z_l4, z_l5, z_l6, z_l7, z_l8, z_l9, z_l10, z_l11, z_l12, z_l13, z_l14, z_l15, z_l16, z_l17, z_l18, z_l19, z_l20, z_l21, z_l22, z_l23, z_l24, z_l25, z_l26, z_l27, z_l28, z_l32, z_l48, z_l56, z_l57, z_l59, z_l63, z_l64, z_l96, z_l97, z_l122, z_l127, z_l152, z_l158, z_l182, z_l255, z_l256, z_l310, z_l342, z_l406, z_l440, z_l729, z_l800, z_l3960, z_l14336, z_l14592, z_l100000, hC.1.1, hb', eW, d7, d9, c1, e3']
            · refine (Ystep _).mpr ?_
              simp (disch := omega) only [z_gt, z_o1, z_o2, z_o3, z_o4, z_o5, z_o6, z_o7, z_o8, z_o9, z_bn, z_jn, nI_add, z_mul, z_sub, z_div, Nat.not_lt_zero, z_cl, z_le, z_lt, z_eq, z_inb, z_nz, z_isB0, z_notJ, z_notI, z_isB1, z_m1, z_pos, z_pos', z_nlt, z_nle', z_m1le, z_m1a, z_nle, z_sI0, z_sI1, z_sI2, z_sI3, z_sJ0, z_sJ1, z_sJ2, z_sJ3, z_sF0, z_sF1, z_sF2, z_sA0, z_sA1, z_sA2, z_sA3, z_sAA, z_sIA, ↓reduceIte, Nat.reduceEqDiff, Nat.reduceLeDiff, Nat.reduceLT, z_l0, z_l1, z_l2, z_l3, z_l4, z_l5, z_l6, z_l7, z_l8, z_l9, z_l10, z_l11, z_l12, z_l13, z_l14, z_l15, z_l16, z_l17, z_l18, z_l19, z_l20, z_l21, z_l22, z_l23, z_l24, z_l25, z_l26, z_l27, z_l28, z_l32, z_l48, z_l56, z_l57, z_l59, z_l63, z_l64, z_l96, z_l97, z_l122, z_l127, z_l152, z_l158, z_l182, z_l255, z_l256, z_l310, z_l342, z_l406, z_l440, z_l729, z_l800, z_l3960, z_l14336, z_l14592, z_l100000, e1, e2]
        · obtain ⟨v2, e2, F2⟩ := n1 hk
          obtain ⟨v3, e3, C3⟩ := hD.fail (-2)
          have e3' : f_X5_fail vD (-nI 2) = some (nI 0, v3) := e3
          have d7 := hD.2.1.2.1
          have hk4 : tkind B M s ≤ 4 := by unfold tkind; (repeat' split) <;> omega
          refine Or.inr ⟨v3, vT, v2, -2, nI s, ?_, ?_, C3, F2, by decide⟩
          · unfold f_X5_readTest_L30
            have hb' : ¬ NI q ≤ i := hb
            simp (disch := omega) only [z_gt, z_o1, z_o2, z_o3, z_o4, z_o5, z_o6, z_o7, z_o8, z_o9, z_bn, z_jn, nI_add, z_mul, z_sub, z_div, Nat.not_lt_zero, z_cl, z_le, z_lt, z_eq, z_inb, z_nz, z_isB0, z_notJ, z_notI, z_isB1, z_m1, z_pos, z_pos', z_nlt, z_nle', z_m1le, z_m1a, z_nle, z_sI0, z_sI1, z_sI2, z_sI3, z_sJ0, z_sJ1, z_sJ2, z_sJ3, z_sF0, z_sF1, z_sF2, z_sA0, z_sA1, z_sA2, z_sA3, z_sAA, z_sIA, ↓reduceIte, Nat.reduceEqDiff, Nat.reduceLeDiff, Nat.reduceLT, z_l0, z_l1, z_l2, z_l3, z_l4, z_l5, z_l6, z_l7, z_l8, z_l9, z_l10, z_l11, z_l12, z_l13, z_l14, z_l15, z_l16, z_l17, z_l18, z_l19, z_l20, z_l21, z_l22, z_l23, z_l24, z_l25, z_l26, z_l27, z_l28, z_l32, z_l48, z_l56, z_l57, z_l59, z_l63, z_l64, z_l96, z_l97, z_l122, z_l127, z_l152, z_l158, z_l182, z_l255, z_l256, z_l310, z_l342, z_l406, z_l440, z_l729, z_l800, z_l3960, z_l14336, z_l14592, z_l100000, hC.1.1, hb', eW, d7, hk, e3']
          · refine (Ystep _).mpr ?_
            simp (disch := omega) only [z_gt, z_o1, z_o2, z_o3, z_o4, z_o5, z_o6, z_o7, z_o8, z_o9, z_bn, z_jn, nI_add, z_mul, z_sub, z_div, Nat.not_lt_zero, z_cl, z_le, z_lt, z_eq, z_inb, z_nz, z_isB0, z_notJ, z_notI, z_isB1, z_m1, z_pos, z_pos', z_nlt, z_nle', z_m1le, z_m1a, z_nle, z_sI0, z_sI1, z_sI2, z_sI3, z_sJ0, z_sJ1, z_sJ2, z_sJ3, z_sF0, z_sF1, z_sF2, z_sA0, z_sA1, z_sA2, z_sA3, z_sAA, z_sIA, ↓reduceIte, Nat.reduceEqDiff, Nat.reduceLeDiff, Nat.reduceLT, z_l0, z_l1, z_l2, z_l3, z_l4, z_l5, z_l6, z_l7, z_l8, z_l9, z_l10, z_l11, z_l12, z_l13, z_l14, z_l15, z_l16, z_l17, z_l18, z_l19, z_l20, z_l21, z_l22, z_l23, z_l24, z_l25, z_l26, z_l27, z_l28, z_l32, z_l48, z_l56, z_l57, z_l59, z_l63, z_l64, z_l96, z_l97, z_l122, z_l127, z_l152, z_l158, z_l182, z_l255, z_l256, z_l310, z_l342, z_l406, z_l440, z_l729, z_l800, z_l3960, z_l14336, z_l14592, z_l100000, e1, e2]
theorem j_test {B : Nat → Nat} {M s a : Nat} {v0 vD vC vT vM : Vs} {q : Nat → Int32} (hs : s ≤ M) (ha : a = tend B M s) (hD : CH B M s vD) (hMM : MH B M v0 q a vM) (hG : GR q vC vT) (hS : SN2 q) (hZ : ZC q vC) : JT B M v0 a vC (f_X5_readTest vD vC vT) (f_X8_readsTest vM (nI s)) := by
  obtain ⟨hw, ht, hC, hT⟩ := id hG
  have hnf := hw.nf
  have h16 := ht.1.2
  have r4 : vM.2.1 2 4 = nI (NT q) := by rw [hMM.2.2.2.2.2.1 4 (by omega)]; exact ht.1.1
  have t4 : ((4 : Int32)).toNatClampNeg = 4 := rfl
  unfold f_X5_readTest f_X8_readsTest f_X6_isFull
  rw [show inb (4 : Int32) 440 = true by decide, z_gt, z_gt, t4, r4, hT.1, z_l16]
  by_cases h : NT q = 16
  · have n16 : ¬ NT q < 16 := by omega
    obtain ⟨v2, e2, F2⟩ := h_fails hMM.2.2.2.1 hMM.2.2.2.2.2.2 (-6) (nI s)
    obtain ⟨v3, e3, C3⟩ := hD.fail (-6)
    refine Or.inr ⟨v3, vT, v2, -6, nI s, ?_, ?_, C3, F2, by decide⟩
    · have e3' : f_X5_fail vD (-nI 6) = some (nI 0, v3) := e3
      simp (disch := omega) only [z_gt, z_o1, z_o2, z_o3, z_o4, z_o5, z_o6, z_o7, z_o8, z_o9, z_bn, z_jn, nI_add, z_mul, z_sub, z_div, Nat.not_lt_zero, z_cl, z_le, z_lt, z_eq, z_inb, z_nz, z_isB0, z_notJ, z_notI, z_isB1, z_m1, z_pos, z_pos', z_nlt, z_nle', z_m1le, z_m1a, z_nle, z_sI0, z_sI1, z_sI2, z_sI3, z_sJ0, z_sJ1, z_sJ2, z_sJ3, z_sF0, z_sF1, z_sF2, z_sA0, z_sA1, z_sA2, z_sA3, z_sAA, z_sIA, ↓reduceIte, Nat.reduceEqDiff, Nat.reduceLeDiff, Nat.reduceLT, z_l0, z_l1, z_l2, z_l3, z_l4, z_l5, z_l6, z_l7, z_l8, z_l9, z_l10, z_l11, z_l12, z_l13, z_l14, z_l15, z_l16, z_l17, z_l18, z_l19, z_l20, z_l21, z_l22, z_l23, z_l24, z_l25, z_l26, z_l27, z_l28, z_l32, z_l48, z_l56, z_l57, z_l59, z_l63, z_l64, z_l96, z_l97, z_l122, z_l127, z_l152, z_l158, z_l182, z_l255, z_l256, z_l310, z_l342, z_l406, z_l440, z_l729, z_l800, z_l3960, z_l14336, z_l14592, z_l100000, n16, e3']
    · rw [iet h, e2, z_o2]
      rfl
  · have n16 : NT q < 16 := by omega
    obtain ⟨vD1, e1, hD1⟩ := hD.adv hs
    rw [← ha] at hD1
    refine JT.mono (j_tests hG hS hZ n16 (NI q + 1) 0 a 0 0 q vD1 vM FU FU (by omega) (by unfold FU; omega) (by unfold FU; omega) (Nat.zero_le _) ⟨fun _ _ _ => rfl, fun j hj => by omega, by omega, by omega, fun j => by unfold fq; simp⟩ hD1 hMM) (Nat.le_refl _) ?_ ?_
    · simp (disch := omega) only [z_gt, z_o1, z_o2, z_o3, z_o4, z_o5, z_o6, z_o7, z_o8, z_o9, z_bn, z_jn, nI_add, z_mul, z_sub, z_div, Nat.not_lt_zero, z_cl, z_le, z_lt, z_eq, z_inb, z_nz, z_isB0, z_notJ, z_notI, z_isB1, z_m1, z_pos, z_pos', z_nlt, z_nle', z_m1le, z_m1a, z_nle, z_sI0, z_sI1, z_sI2, z_sI3, z_sJ0, z_sJ1, z_sJ2, z_sJ3, z_sF0, z_sF1, z_sF2, z_sA0, z_sA1, z_sA2, z_sA3, z_sAA, z_sIA, ↓reduceIte, Nat.reduceEqDiff, Nat.reduceLeDiff, Nat.reduceLT, z_l0, z_l1, z_l2, z_l3, z_l4, z_l5, z_l6, z_l7, z_l8, z_l9, z_l10, z_l11, z_l12, z_l13, z_l14, z_l15, z_l16, z_l17, z_l18, z_l19, z_l20, z_l21, z_l22, z_l23, z_l24, z_l25, z_l26, z_l27, z_l28, z_l32, z_l48, z_l56, z_l57, z_l59, z_l63, z_l64, z_l96, z_l97, z_l122, z_l127, z_l152, z_l158, z_l182, z_l255, z_l256, z_l310, z_l342, z_l406, z_l440, z_l729, z_l800, z_l3960, z_l14336, z_l14592, z_l100000, n16, e1]
    · rw [ief h (by omega) (by omega), z_bn, z_l182, z_l8, z_mul, nI_add]
      rfl
