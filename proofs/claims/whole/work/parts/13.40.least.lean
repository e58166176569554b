/-! the least set -/
def pc (S : Nat) : Nat := cnt (fun i => S.testBit i) 16
theorem cnt_bit0 (n K : Nat) : cnt (fun i => n.testBit i) (K + 1) = n % 2 + cnt (fun i => (n / 2).testBit i) K := by
  rw [Nat.add_comm, cnt_one]
  have h0 : (if n.testBit 0 then 1 else 0) = n % 2 := by
    rw [Nat.testBit_zero]
    have : n % 2 = 0 ∨ n % 2 = 1 := by omega
    rcases this with q | q <;> rw [q] <;> rfl
  rw [h0]
  congr 1
  exact cnt_cong _ (fun i _ => Nat.testBit_succ n i)
theorem and_pred : ∀ K n, 0 < n → n < 2 ^ K → cnt (fun i => (n &&& (n - 1)).testBit i) K + 1 = cnt (fun i => n.testBit i) K
  | 0, n, h, h2 => by
    rw [Nat.pow_zero] at h2
    omega
  | K + 1, n, h, h2 => by
    rw [Nat.pow_succ] at h2
    rw [cnt_bit0, cnt_bit0]
    have e1 : (n &&& (n - 1)) % 2 = (n % 2) &&& ((n - 1) % 2) := Nat.and_mod_two_pow (n := 1)
    have e2 : (n &&& (n - 1)) / 2 = n / 2 &&& (n - 1) / 2 := Nat.and_div_two_pow (n := 1)
    rw [e1, e2]
    have hb : n % 2 = 0 ∨ n % 2 = 1 := by omega
    rcases hb with q | q
    · have z : (n % 2) &&& ((n - 1) % 2) = 0 := by rw [q, Nat.zero_and]
      have d : (n - 1) / 2 = n / 2 - 1 := by omega
      have ih := and_pred K (n / 2) (by omega) (by omega)
      rw [z, d]
      omega
    · have z : (n % 2) &&& ((n - 1) % 2) = 0 := by
        have : (n - 1) % 2 = 0 := by omega
        rw [this, Nat.and_zero]
      have d : (n - 1) / 2 = n / 2 := by omega
      rw [z, d, Nat.and_self]
      omega
theorem nI_and2 (a b : Nat) : nI a &&& nI b = nI (a &&& b) := by
  apply Int32.toBitVec_inj.1
  show BitVec.ofNat 32 a &&& BitVec.ofNat 32 b = BitVec.ofNat 32 (a &&& b)
  apply BitVec.eq_of_getLsbD_eq
  intro i hi
  simp [hi]
theorem h_bitsOf {S : Nat} (h : S < 65536) : f_X8_bitsOf (nI S) = some (nI (pc S)) := by
  refine ok_get ?_
  unfold f_X8_bitsOf
  have hpc := cnt_le (fun i => S.testBit i) 16
  refine zl2 (I := fun m x y => ∃ T, y = nI T ∧ T < 65536 ∧ x = nI (pc S - pc T) ∧ pc T ≤ pc S ∧ m = T) ?_ FU S _ _ (by unfold FU; omega) ⟨S, rfl, h, by rw [Nat.sub_self]; rfl, Nat.le_refl _, rfl⟩
  rintro m x y self ⟨T, rfl, hT, rfl, hle, hmT⟩ ih
  unfold f_X8_bitsOf_L4
  by_cases h0 : T = 0
  · subst h0
    have z : pc 0 = 0 := cnt_zero _ (fun k _ => Nat.zero_testBit k)
    rw [z]
    exact ok_some rfl
  · have hp := and_pred 16 T (by omega) (by omega)
    have hlt : T &&& (T - 1) < T := Nat.lt_of_le_of_lt Nat.and_le_right (by omega)
    have hp' : pc (T &&& (T - 1)) + 1 = pc T := hp
    have ih' := ih (T &&& (T - 1)) (nI (pc S - pc (T &&& (T - 1)))) (nI (T &&& (T - 1))) (by omega) ⟨_, rfl, by omega, rfl, by omega, rfl⟩
    rw [show pc S - pc (T &&& (T - 1)) = pc S - pc T + 1 by omega] at ih'
    simp (disch := omega) only [z_gt, z_o1, z_o2, z_o3, z_o4, z_o5, z_o6, z_o7, z_o8, z_o9, z_bn, z_jn, nI_add, z_mul, z_sub, z_div, Nat.not_lt_zero, z_cl, z_le, z_lt, z_eq, z_inb, z_nz, z_isB0, z_notJ, z_notI, z_isB1, z_m1, z_pos, z_pos', z_nlt, z_nle', z_m1le, z_m1a, z_nle, z_sI0, z_sI1, z_sI2, z_sI3, z_sJ0, z_sJ1, z_sJ2, z_sJ3, z_sF0, z_sF1, z_sF2, z_sA0, z_sA1, z_sA2, z_sA3, z_sAA, z_sIA, ↓reduceIte, Nat.reduceEqDiff, Nat.reduceLeDiff, Nat.reduceLT, z_l0, z_l1, z_l2, z_l3, z_l4, z_l5, z_l6, z_l7, z_l8, z_l9, z_l10, z_l11, z_l12, z_l13, z_l14, z_l15, z_l16, z_l17, z_l18, z_l19, z_l20, z_l21, z_l22, z_l23, z_l24, z_l25, z_l26, z_l27, z_l28, z_l32, z_l48, z_l56, z_l57, z_l59, z_l63, z_l64, z_l96, z_l97, z_l122, z_l127, z_l152, z_l158, z_l182, z_l255, z_l256, z_l310, z_l342, z_l406, z_l440, z_l729, z_l800, z_l3960, z_l14336, z_l14592, z_l100000, h0, nI_and2]
    exact ih'
theorem fbN_bit (r : Nat → Int32) (f : Nat) : ∀ n t, (fbN r f n).testBit t = (decide (t < n) && FD r t f)
  | 0, t => by
    show (0 : Nat).testBit t = _
    simp
  | n + 1, t => by
    have ih := fbN_bit r f n t
    have hlt := fbN_lt r f n
    have e : fbN r f (n + 1) = fbN r f n + (if FD r n f then 2 ^ n else 0) := rfl
    cases hd : FD r n f
    · rw [e, hd, if_neg (by decide), Nat.add_zero, ih]
      by_cases h : t = n
      · subst h
        simp [hd]
      · by_cases h2 : t < n
        · have : t < n + 1 := by omega
          simp [h2, this]
        · have : ¬ t < n + 1 := by omega
          simp [h2, this]
    · rw [e, hd, if_pos rfl]
      have h3 := Nat.testBit_two_pow_mul_add 1 (b := fbN r f n) (i := n) hlt t
      rw [Nat.mul_one, Nat.add_comm] at h3
      rw [h3]
      by_cases h2 : t < n
      · rw [if_pos h2, ih]
        have : t < n + 1 := by omega
        simp [h2, this]
      · rw [if_neg h2]
        by_cases h : t = n
        · subst h
          simp [hd]
        · have : ¬ t < n + 1 := by omega
          have h1 : t - n ≠ 0 := by omega
          have h9 : Nat.testBit 1 (t - n) = false := by
            obtain ⟨j, hj⟩ : ∃ j, t - n = j + 1 := ⟨t - n - 1, by omega⟩
            rw [hj, Nat.testBit_succ]
            exact Nat.zero_testBit j
          rw [h9]
          simp [this]
/-- S loses no fault -/
def CV (r : Nat → Int32) (S : Nat) : Bool := decide (∀ f, f < NF r → fbN r f (NT r) = 0 ∨ ¬ (fbN r f (NT r) &&& S = 0))
theorem fbN_16 {r : Nat → Int32} (ht : WFt r) (f : Nat) : fbN r f (NT r) < 65536 := Nat.lt_of_lt_of_le (fbN_lt r f (NT r)) (show 2 ^ NT r ≤ 2 ^ 16 from Nat.pow_le_pow_right (by omega) ht.1.2)
theorem h_findsAll {v : Vs} {n : Nat} {r : Nat → Int32} (h : MS v n r) (hw : WFc r) (ht : WFt r) (hf : ∀ f, f < NF r → v.2.1 9 f = nI (fbN r f (NT r))) {S : Nat} (hS : S < 65536) : f_X8_findsAll v (nI S) = some (if CV r S then nI 1 else nI 0) := by
  have hn := hw.nf
  refine ok_get ?_
  unfold f_X8_findsAll
  refine zl1 (I := fun m x => ∃ f, x = nI f ∧ f ≤ NF r ∧ m = NF r - f ∧ ∀ g, g < f → fbN r g (NT r) = 0 ∨ ¬ (fbN r g (NT r) &&& S = 0)) ?_ FU (NF r) _ (by unfold FU; omega) ⟨0, rfl, by omega, by omega, fun g hg => by omega⟩
  rintro m x self ⟨f, rfl, hle, rfl, hz⟩ ih
  unfold f_X8_findsAll_L2
  refine ok_o1e (g_faults h hw) ?_
  by_cases hb : NF r ≤ f
  · rw [ift hb (by omega)]
    have hd : CV r S = true := by
      unfold CV
      rw [decide_eq_true_iff]
      exact fun g hg => hz g (by omega)
    rw [hd]
    exact ok_some rfl
  · rw [iff_ hb (by omega)]
    have hF := hf f (by omega)
    have h16 := fbN_16 ht f
    have hand : fbN r f (NT r) &&& S < 65536 := Nat.lt_of_le_of_lt Nat.and_le_left h16
    have next : (fbN r f (NT r) = 0 ∨ ¬ (fbN r f (NT r) &&& S = 0)) → Ok (self (nI (f + 1))) (fun a => a = if CV r S then nI 1 else nI 0) := fun hh => by
      refine ih _ _ (by omega) ⟨f + 1, rfl, by omega, rfl, fun g hg => ?_⟩
      by_cases e : g = f
      · rw [e]; exact hh
      · exact hz g (by omega)
    by_cases c1 : fbN r f (NT r) = 0
    · have nx := next (Or.inl c1)
      rw [c1] at hF
      simp (disch := omega) only [z_gt, z_o1, z_o2, z_o3, z_o4, z_o5, z_o6, z_o7, z_o8, z_o9, z_bn, z_jn, nI_add, z_mul, z_sub, z_div, Nat.not_lt_zero, z_cl, z_le, z_lt, z_eq, z_inb, z_nz, z_isB0, z_notJ, z_notI, z_isB1, z_m1, z_pos, z_pos', z_nlt, z_nle', z_m1le, z_m1a, z_nle, z_sI0, z_sI1, z_sI2, z_sI3, z_sJ0, z_sJ1, z_sJ2, z_sJ3, z_sF0, z_sF1, z_sF2, z_sA0, z_sA1, z_sA2, z_sA3, z_sAA, z_sIA, ↓reduceIte, Nat.reduceEqDiff, Nat.reduceLeDiff, Nat.reduceLT, z_l0, z_l1, z_l2, z_l3, z_l4, z_l5, z_l6, z_l7, z_l8, z_l9, z_l10, z_l11, z_l12, z_l13, z_l14, z_l15, z_l16, z_l17, z_l18, z_l19, z_l20, z_l21, z_l22, z_l23, z_l24, z_l25, z_l26, z_l27, z_l28, z_l32, z_l48, z_l56, z_l57, z_l59, z_l63, z_l64, z_l96, z_l97, z_l122, z_l127, z_l152, z_l158, z_l182, z_l255, z_l256, z_l310, z_l342, z_l406, z_l440, z_l729, z_l800, z_l3960, z_l14336, z_l14592, z_l100000, hF]
      exact nx
    · by_cases c2 : fbN r f (NT r) &&& S = 0
      · have hd : CV r S = false := by
          unfold CV
          rw [decide_eq_false_iff_not]
          intro z
          rcases z f (by omega) with z | z
          · exact c1 z
          · exact z c2
        rw [hd]
        simp (disch := omega) only [z_gt, z_o1, z_o2, z_o3, z_o4, z_o5, z_o6, z_o7, z_o8, z_o9, z_bn, z_jn, nI_add, z_mul, z_sub, z_div, Nat.not_lt_zero, z_cl, z_le, z_lt, z_eq, z_inb, z_nz, z_isB0, z_notJ, z_notI, z_isB1, z_m1, z_pos, z_pos', z_nlt, z_nle', z_m1le, z_m1a, z_nle, z_sI0, z_sI1, z_sI2, z_sI3, z_sJ0, z_sJ1, z_sJ2, z_sJ3, z_sF0, z_sF1, z_sF2, z_sA0, z_sA1, z_sA2, z_sA3, z_sAA, z_sIA, ↓reduceIte, Nat.reduceEqDiff, Nat.reduceLeDiff, Nat.reduceLT, z_l0, z_l1, z_l2, z_l3, z_l4, z_l5, z_l6, z_l7, z_l8, z_l9, z_l10, z_l11, z_l12, z_l13, z_l14, z_l15, z_l16, z_l17, z_l18, z_l19, z_l20, z_l21, z_l22, z_l23, z_l24, z_l25, z_l26, z_l27, z_l28, z_l32, z_l48, z_l56, z_l57, z_l59, z_l63, z_l64, z_l96, z_l97, z_l122, z_l127, z_l152, z_l158, z_l182, z_l255, z_l256, z_l310, z_l342, z_l406, z_l440, z_l729, z_l800, z_l3960, z_l14336, z_l14592, z_l100000, hF, c1, nI_and2, c2]
        exact ok_some rfl
      · have nx := next (Or.inr c2)
        simp (disch := omega) only [z_gt, z_o1, z_o2, z_o3, z_o4, z_o5, z_o6, z_o7, z_o8, z_o9, z_bn, z_jn, nI_add, z_mul, z_sub, z_div, Nat.not_lt_zero, z_cl, z_le, z_lt, z_eq, z_inb, z_nz, z_isB0, z_notJ, z_notI, z_isB1, z_m1, z_pos, z_pos', z_nlt, z_nle', z_m1le, z_m1a, z_nle, z_sI0, z_sI1, z_sI2, z_sI3, z_sJ0, z_sJ1, z_sJ2, z_sJ3, z_sF0, z_sF1, z_sF2, z_sA0, z_sA1, z_sA2, z_sA3, z_sAA, z_sIA, ↓reduceIte, Nat.reduceEqDiff, Nat.reduceLeDiff, Nat.reduceLT, z_l0, z_l1, z_l2, z_l3, z_l4, z_l5, z_l6, z_l7, z_l8, z_l9, z_l10, z_l11, z_l12, z_l13, z_l14, z_l15, z_l16, z_l17, z_l18, z_l19, z_l20, z_l21, z_l22, z_l23, z_l24, z_l25, z_l26, z_l27, z_l28, z_l32, z_l48, z_l56, z_l57, z_l59, z_l63, z_l64, z_l96, z_l97, z_l122, z_l127, z_l152, z_l158, z_l182, z_l255, z_l256, z_l310, z_l342, z_l406, z_l440, z_l729, z_l800, z_l3960, z_l14336, z_l14592, z_l100000, hF, c1, nI_and2, c2]
        exact nx
def bestS (r : Nat → Int32) : Nat → Nat
  | 0 => 2 ^ NT r - 1
  | n + 1 => if pc n < pc (bestS r n) ∧ CV r n = true then n else bestS r n
theorem pow16 {r : Nat → Int32} (ht : WFt r) : 2 ^ NT r ≤ 65536 ∧ 1 ≤ 2 ^ NT r := ⟨show 2 ^ NT r ≤ 2 ^ 16 from Nat.pow_le_pow_right (by omega) ht.1.2, Nat.one_le_two_pow⟩
theorem bestS_lt {r : Nat → Int32} (ht : WFt r) : ∀ n, n ≤ 2 ^ NT r → bestS r n < 2 ^ NT r
  | 0, _ => by
    have := pow16 ht
    show 2 ^ NT r - 1 < _
    omega
  | n + 1, h => by
    have ih := bestS_lt ht n (by omega)
    show (if pc n < pc (bestS r n) ∧ CV r n = true then n else bestS r n) < _
    split <;> omega
theorem h_leastSet {v : Vs} {n : Nat} {r : Nat → Int32} (h : MS v n r) (hw : WFc r) (ht : WFt r) : ∃ v', f_X8_leastSet v = some (nI (bestS r (2 ^ NT r)), v') ∧ QM v v' := by
  have h16 := ht.1.2
  have hp := pow16 ht
  have M0 := h.sF 0 (nI 0) (by decide)
  obtain ⟨v2, e2, s2, hf⟩ := h_finders M0 hw ht
  have hm := M0.sc s2 (by decide)
  refine ⟨v2, ok_get ?_, (QM.th _ _).tr (QM.sc s2 (by decide) (by decide))⟩
  unfold f_X8_leastSet
  rw [z_l0, z_bn, e2, z_o1, g_tests hm ht, z_o1, z_l1, g_shl _ (by omega), z_sub hp.2]
  refine zl2 (I := fun m x y => ∃ S, x = nI (bestS r S) ∧ y = nI S ∧ S ≤ 2 ^ NT r ∧ m = 2 ^ NT r - S) ?_ FU (2 ^ NT r) _ _ (by unfold FU; omega) ⟨0, rfl, rfl, by omega, by omega⟩
  rintro m x y self ⟨S, rfl, rfl, hle, rfl⟩ ih
  unfold f_X8_leastSet_L20
  refine ok_o1e (g_tests hm ht) ?_
  rw [z_l1, g_shl _ (by omega)]
  by_cases hb : 2 ^ NT r ≤ S
  · rw [ift hb (by omega)]
    have e : S = 2 ^ NT r := by omega
    subst e
    exact ok_some rfl
  · rw [iff_ hb (by omega)]
    have hbl := bestS_lt ht S hle
    refine ok_o1e (h_bitsOf (by omega)) ?_
    refine ok_o1e (h_bitsOf (by omega)) ?_
    have hp1 := cnt_le (fun i => S.testBit i) 16
    have hp2 := cnt_le (fun i => (bestS r S).testBit i) 16
    have hp1' : pc S ≤ 16 := hp1
    have hp2' : pc (bestS r S) ≤ 16 := hp2
    have eb : bestS r (S + 1) = if pc S < pc (bestS r S) ∧ CV r S = true then S else bestS r S := rfl
    have ih' := ih (2 ^ NT r - (S + 1)) (nI (bestS r (S + 1))) (nI (S + 1)) (by omega) ⟨S + 1, rfl, rfl, by omega, rfl⟩
    rw [eb] at ih'
    have hFA := h_findsAll hm hw ht hf (S := S) (by omega)
    by_cases c1 : pc (bestS r S) ≤ pc S
    · rw [if_neg (by omega)] at ih'
      simp (disch := omega) only [z_gt, z_o1, z_o2, z_o3, z_o4, z_o5, z_o6, z_o7, z_o8, z_o9, z_bn, z_jn, nI_add, z_mul, z_sub, z_div, Nat.not_lt_zero, z_cl, z_le, z_lt, z_eq, z_inb, z_nz, z_isB0, z_notJ, z_notI, z_isB1, z_m1, z_pos, z_pos', z_nlt, z_nle', z_m1le, z_m1a, z_nle, z_sI0, z_sI1, z_sI2, z_sI3, z_sJ0, z_sJ1, z_sJ2, z_sJ3, z_sF0, z_sF1, z_sF2, z_sA0, z_sA1, z_sA2, z_sA3, z_sAA, z_sIA, ↓reduceIte, Nat.reduceEqDiff, Nat.reduceLeDiff, Nat.reduceLT, z_l0, z_l1, z_l2, z_l3, z_l4, z_l5, z_l6, z_l7, z_l8, z_l9, z_l10, z_l11, z_l12, z_l13, z_l14, z_l15, z_l16, z_l17, z_l18, z_l19, z_l20, z_l21, z_l22, z_l23, z_l24, z_l25, z_l26, z_l27, z_l28, z_l32, z_l48, z_l56, z_l57, z_l59, z_l63, z_l64, z_l96, z_l97, z_l122, z_l127, z_l152, z_l158, z_l182, z_l255, z_l256, z_l310, z_l342, z_l406, z_l440, z_l729, z_l800, z_l3960, z_l14336, z_l14592, z_l100000, c1]
      exact ih'
    · cases hd : CV r S
      · rw [hd] at hFA ih'
        rw [if_neg (by decide)] at hFA
        rw [if_neg (by simp)] at ih'
        simp (disch := omega) only [z_gt, z_o1, z_o2, z_o3, z_o4, z_o5, z_o6, z_o7, z_o8, z_o9, z_bn, z_jn, nI_add, z_mul, z_sub, z_div, Nat.not_lt_zero, z_cl, z_le, z_lt, z_eq, z_inb, z_nz, z_isB0, z_notJ, z_notI, z_isB1, z_m1, z_pos, z_pos', z_nlt, z_nle', z_m1le, z_m1a, z_nle, z_sI0, z_sI1, z_sI2, z_sI3, z_sJ0, z_sJ1, z_sJ2, z_sJ3, z_sF0, z_sF1, z_sF2, z_sA0, z_sA1, z_sA2, z_sA3, z_sAA, z_sIA, ↓reduceIte, Nat.reduceEqDiff, Nat.reduceLeDiff, Nat.reduceLT, z_l0, z_l1, z_l2, z_l3, z_l4, z_l5, z_l6, z_l7, z_l8, z_l9, z_l10, z_l11, z_l12, z_l13, z_l14, z_l15, z_l16, z_l17, z_l18, z_l19, z_l20, z_l21, z_l22, z_l23, z_l24, z_l25, z_l26, z_l27, z_l28, z_l32, z_l48, z_l56, z_l57, z_l59, z_l63, z_l64, z_l96, z_l97, z_l122, z_l127, z_l152, z_l158, z_l182, z_l255, z_l256, z_l310, z_l342, z_l406, z_l440, z_l729, z_l800, z_l3960, z_l14336, z_l14592, z_l100000, c1, hFA]
        exact ih'
      · rw [hd] at hFA ih'
        rw [if_pos rfl] at hFA
        rw [if_pos ⟨by omega, rfl⟩] at ih'
        simp (disch := omega) only [z_gt, z_o1, z_o2, z_o3, z_o4, z_o5, z_o6, z_o7, z_o8, z_o9, z_bn, z_jn, nI_add, z_mul, z_sub, z_div, Nat.not_lt_zero, z_cl, z_le, z_lt, z_eq, z_inb, z_nz, z_isB0, z_notJ, z_notI, z_isB1, z_m1, z_pos, z_pos', z_nlt, z_nle', z_m1le, z_m1a, z_nle, z_sI0, z_sI1, z_sI2, z_sI3, z_sJ0, z_sJ1, z_sJ2, z_sJ3, z_sF0, z_sF1, z_sF2, z_sA0, z_sA1, z_sA2, z_sA3, z_sAA, z_sIA, ↓reduceIte, Nat.reduceEqDiff, Nat.reduceLeDiff, Nat.reduceLT, z_l0, z_l1, z_l2, z_l3, z_l4, z_l5, z_l6, z_l7, z_l8, z_l9, z_l10, z_l11, z_l12, z_l13, z_l14, z_l15, z_l16, z_l17, z_l18, z_l19, z_l20, z_l21, z_l22, z_l23, z_l24, z_l25, z_l26, z_l27, z_l28, z_l32, z_l48, z_l56, z_l57, z_l59, z_l63, z_l64, z_l96, z_l97, z_l122, z_l127, z_l152, z_l158, z_l182, z_l255, z_l256, z_l310, z_l342, z_l406, z_l440, z_l729, z_l800, z_l3960, z_l14336, z_l14592, z_l100000, c1, hFA]
        exact ih'
