/-! the k-th suspect -/
theorem cnt_kth {p : Nat → Bool} {k : Nat} : ∀ n, k < cnt p n → ∃ i, i < n ∧ p i = true ∧ cnt p i = k
  | 0, h => absurd h (Nat.not_lt_zero k)
  | n + 1, h => by
    by_cases q : k < cnt p n
    · obtain ⟨i, a, b⟩ := cnt_kth n q
      exact ⟨i, by omega, b⟩
    · have e : cnt p (n + 1) = cnt p n + (if p n then 1 else 0) := rfl
      cases hp : p n with
      | false =>
        rw [hp, if_neg (by decide)] at e
        omega
      | true =>
        rw [hp, if_pos rfl] at e
        exact ⟨n, by omega, hp, by omega⟩
theorem cnt_mono (p : Nat → Bool) {m n : Nat} (h : m ≤ n) : cnt p m ≤ cnt p n := by
  have := cnt_split p m (n - m)
  rw [show m + (n - m) = n by omega] at this
  omega
theorem cnt_up {p : Nat → Bool} {i n : Nat} (h : i < n) (hp : p i = true) : cnt p i + 1 ≤ cnt p n := by
  have h1 := cnt_mono p (m := i + 1) (n := n) (by omega)
  have h2 : cnt p (i + 1) = cnt p i + (if p i then 1 else 0) := rfl
  rw [hp, if_pos rfl] at h2
  omega
theorem h_kth {v : Vs} {r : Nat → Int32} (hw : WFc r) (hz : ∀ k, k < 57 → v.2.1 21 k = if FK r (NT r) k then nI 1 else nI 0) {i K : Nat} (hi : i < NF r) (hp : FPb r (i + 1) = true) (hK : cnt (fun f => FPb r (f + 1)) i = K) : lp (f_X8_suspect_L55 v) (fun _ _ => none) FU (nI K) (nI 0) = some (nI i, v) := by
  have hn := hw.nf
  have hKb := cnt_le (fun f => FPb r (f + 1)) i
  refine ok_get ?_
  refine zl2 (I := fun m x y => ∃ f, y = nI f ∧ x = nI (K - cnt (fun f => FPb r (f + 1)) f) ∧ f ≤ i ∧ m = i - f) ?_ FU i _ _ (by unfold FU; omega) ⟨0, rfl, rfl, by omega, by omega⟩
  rintro m x y self ⟨f, rfl, rfl, hle, rfl⟩ ih
  unfold f_X8_suspect_L55
  have hzf := hz f (by omega)
  rw [FK_lt hw (by omega)] at hzf
  have hfp : FN r (f + 1) (NT r) = FPb r (f + 1) := rfl
  rw [hfp] at hzf
  have ec : cnt (fun f => FPb r (f + 1)) (f + 1) = cnt (fun f => FPb r (f + 1)) f + (if FPb r (f + 1) then 1 else 0) := rfl
  have hm := cnt_mono (fun f => FPb r (f + 1)) hle
  by_cases hfi : f = i
  · subst hfi
    rw [hp, if_pos rfl] at hzf
    have e0 : K - cnt (fun f => FPb r (f + 1)) f = 0 := by omega
    rw [e0]
    simp (disch := omega) only [z_gt, z_o1, z_o2, z_o3, z_o4, z_o5, z_o6, z_o7, z_o8, z_o9, z_bn, z_jn, nI_add, z_mul, z_sub, z_div, Nat.not_lt_zero, z_cl, z_le, z_lt, z_eq, z_inb, z_nz, z_isB0, z_notJ, z_notI, z_isB1, z_m1, z_pos, z_pos', z_nlt, z_nle', z_m1le, z_m1a, z_nle, z_sI0, z_sI1, z_sI2, z_sI3, z_sJ0, z_sJ1, z_sJ2, z_sJ3, z_sF0, z_sF1, z_sF2, z_sA0, z_sA1, z_sA2, z_sA3, z_sAA, z_sIA, ↓reduceIte, Nat.reduceEqDiff, Nat.reduceLeDiff, Nat.reduceLT, z_l0, z_l1, z_l2, z_l3, z_l4, z_l5, z_l6, z_l7, z_l8, z_l9, z_l10, z_l11, z_l12, z_l13, z_l14, z_l15, z_l16, z_l17, z_l18, z_l19, z_l20, z_l21, z_l22, z_l23, z_l24, z_l25, z_l26, z_l27, z_l28, z_l32, z_l48, z_l56, z_l57, z_l59, z_l63, z_l64, z_l96, z_l97, z_l122, z_l127, z_l152, z_l158, z_l182, z_l255, z_l256, z_l310, z_l342, z_l406, z_l440, z_l729, z_l800, z_l3960, z_l14336, z_l14592, z_l100000, hzf]
    exact ok_some rfl
  · cases hd : FPb r (f + 1)
    · rw [hd, if_neg (by decide)] at hzf ec
      have ih' := ih (i - (f + 1)) (nI (K - cnt (fun f => FPb r (f + 1)) (f + 1))) (nI (f + 1)) (by omega) ⟨f + 1, rfl, rfl, by omega, rfl⟩
      rw [ec] at ih'
      simp (disch := omega) only [z_gt, z_o1, z_o2, z_o3, z_o4, z_o5, z_o6, z_o7, z_o8, z_o9, z_bn, z_jn, nI_add, z_mul, z_sub, z_div, Nat.not_lt_zero, z_cl, z_le, z_lt, z_eq, z_inb, z_nz, z_isB0, z_notJ, z_notI, z_isB1, z_m1, z_pos, z_pos', z_nlt, z_nle', z_m1le, z_m1a, z_nle, z_sI0, z_sI1, z_sI2, z_sI3, z_sJ0, z_sJ1, z_sJ2, z_sJ3, z_sF0, z_sF1, z_sF2, z_sA0, z_sA1, z_sA2, z_sA3, z_sAA, z_sIA, ↓reduceIte, Nat.reduceEqDiff, Nat.reduceLeDiff, Nat.reduceLT, z_l0, z_l1, z_l2, z_l3, z_l4, z_l5, z_l6, z_l7, z_l8, z_l9, z_l10, z_l11, z_l12, z_l13, z_l14, z_l15, z_l16, z_l17, z_l18, z_l19, z_l20, z_l21, z_l22, z_l23, z_l24, z_l25, z_l26, z_l27, z_l28, z_l32, z_l48, z_l56, z_l57, z_l59, z_l63, z_l64, z_l96, z_l97, z_l122, z_l127, z_l152, z_l158, z_l182, z_l255, z_l256, z_l310, z_l342, z_l406, z_l440, z_l729, z_l800, z_l3960, z_l14336, z_l14592, z_l100000, hzf]
      exact ih'
    · have hu := cnt_up (p := fun f => FPb r (f + 1)) (i := f) (n := i) (by omega) hd
      rw [hd, if_pos rfl] at hzf ec
      have ih' := ih (i - (f + 1)) (nI (K - cnt (fun f => FPb r (f + 1)) (f + 1))) (nI (f + 1)) (by omega) ⟨f + 1, rfl, rfl, by omega, rfl⟩
      rw [ec] at ih'
      have ne : ¬ K - cnt (fun f => FPb r (f + 1)) f ≤ 0 := by omega
      have es : K - cnt (fun f => FPb r (f + 1)) f - 1 = K - (cnt (fun f => FPb r (f + 1)) f + 1) := by omega
      simp (disch := omega) only [z_gt, z_o1, z_o2, z_o3, z_o4, z_o5, z_o6, z_o7, z_o8, z_o9, z_bn, z_jn, nI_add, z_mul, z_sub, z_div, Nat.not_lt_zero, z_cl, z_le, z_lt, z_eq, z_inb, z_nz, z_isB0, z_notJ, z_notI, z_isB1, z_m1, z_pos, z_pos', z_nlt, z_nle', z_m1le, z_m1a, z_nle, z_sI0, z_sI1, z_sI2, z_sI3, z_sJ0, z_sJ1, z_sJ2, z_sJ3, z_sF0, z_sF1, z_sF2, z_sA0, z_sA1, z_sA2, z_sA3, z_sAA, z_sIA, ↓reduceIte, Nat.reduceEqDiff, Nat.reduceLeDiff, Nat.reduceLT, z_l0, z_l1, z_l2, z_l3, z_l4, z_l5, z_l6, z_l7, z_l8, z_l9, z_l10, z_l11, z_l12, z_l13, z_l14, z_l15, z_l16, z_l17, z_l18, z_l19, z_l20, z_l21, z_l22, z_l23, z_l24, z_l25, z_l26, z_l27, z_l28, z_l32, z_l48, z_l56, z_l57, z_l59, z_l63, z_l64, z_l96, z_l97, z_l122, z_l127, z_l152, z_l158, z_l182, z_l255, z_l256, z_l310, z_l342, z_l406, z_l440, z_l729, z_l800, z_l3960, z_l14336, z_l14592, z_l100000, hzf, ne, es]
      exact ih'
theorem q_suspect {r : Nat → Int32} (hw : WFc r) (ht : WFt r) {vF vC vT vRT vG vB vRF vM : Vs} {n : Nat} (hC : RC r vC) (hT : RT r vT) (hF : FI r vF vRT vG vRF) (hM : MS vM n r) (x1 : Int32) :
    ∃ c x vF' vRT' vG' vB' y vM', f_X7_suspect vF vC vT 342 vRT vG vB x1 = some (c, x, vF', vRT', vG', vB') ∧ FI r vF' vRT' vG' vRF ∧ f_X8_suspect vM x1 = some (y, vM') ∧ QM vM vM' ∧ ((c = 0 ∧ vM'.1 0 = nI 0 ∧ x = y) ∨ (c = 3 ∧ vM'.1 0 = nI 1)) := by
  have hn := hw.nf
  have h57 := FC_57 hw
  have M0 := hM.sF 0 (nI 0) (by decide)
  obtain ⟨vF', vRT', vG', vB', e, hF', -, hL, -⟩ := y_listFitting hw ht (vB := vB) hC hT hF
  obtain ⟨v2, e2, s2, hz⟩ := h_fitting M0 hw ht
  have t2 : v2.1 0 = nI 0 := by rw [s2.1]; exact z_sF1 _ _ _
  have Q2 : QM vM v2 := (QM.th _ _).tr (QM.sc s2 (by decide) (by decide))
  rcases in_or x1 (n := FC r) (by omega) with ⟨k, h1, rfl⟩ | h1
  · obtain ⟨p, hp1, hp2, hp3⟩ := cnt_kth (NF r + 1) h1
    have hLp := hL p (by omega) hp2
    rw [hp3] at hLp
    have h56 := hz 56 (by omega)
    rw [FK_56] at h56
    have hf0 : FN r 0 (NT r) = FPb r 0 := rfl
    rw [hf0] at h56
    have hisin := g_isIn_y h1 (by omega)
    rw [z_l0, z_l1] at hisin
    refine ⟨0, fI p, vF', vRT', vG', vB', fI p, v2, ?_, hF', ?_, Q2, Or.inl ⟨rfl, t2, rfl⟩⟩
    · unfold f_X7_suspect
      simp (disch := omega) only [z_gt, z_o1, z_o2, z_o3, z_o4, z_o5, z_o6, z_o7, z_o8, z_o9, z_bn, z_jn, nI_add, z_mul, z_sub, z_div, Nat.not_lt_zero, z_cl, z_le, z_lt, z_eq, z_inb, z_nz, z_isB0, z_notJ, z_notI, z_isB1, z_m1, z_pos, z_pos', z_nlt, z_nle', z_m1le, z_m1a, z_nle, z_sI0, z_sI1, z_sI2, z_sI3, z_sJ0, z_sJ1, z_sJ2, z_sJ3, z_sF0, z_sF1, z_sF2, z_sA0, z_sA1, z_sA2, z_sA3, z_sAA, z_sIA, ↓reduceIte, Nat.reduceEqDiff, Nat.reduceLeDiff, Nat.reduceLT, z_l0, z_l1, z_l2, z_l3, z_l4, z_l5, z_l6, z_l7, z_l8, z_l9, z_l10, z_l11, z_l12, z_l13, z_l14, z_l15, z_l16, z_l17, z_l18, z_l19, z_l20, z_l21, z_l22, z_l23, z_l24, z_l25, z_l26, z_l27, z_l28, z_l32, z_l48, z_l56, z_l57, z_l59, z_l63, z_l64, z_l96, z_l97, z_l122, z_l127, z_l152, z_l158, z_l182, z_l255, z_l256, z_l310, z_l342, z_l406, z_l440, z_l729, z_l800, z_l3960, z_l14336, z_l14592, z_l100000, e, h1, hLp]
    · unfold f_X8_suspect
      rw [z_l0, z_l1, z_bn, e2, z_o2, hisin, z_o1, g_right1 t2, z_o2]
      cases hd : FPb r 0
      · rw [hd, if_neg (by decide)] at h56
        obtain ⟨i, rfl⟩ : ∃ i, p = i + 1 := ⟨p - 1, by
          have : p ≠ 0 := by intro q; rw [q, hd] at hp2; cases hp2
          omega⟩
        have hc : cnt (fun f => FPb r (f + 1)) i = k := by
          rw [Nat.add_comm, cnt_one, hd, if_neg (by decide)] at hp3
          omega
        have hk := h_kth hw hz (by omega) hp2 hc
        simp (disch := omega) only [z_gt, z_o1, z_o2, z_o3, z_o4, z_o5, z_o6, z_o7, z_o8, z_o9, z_bn, z_jn, nI_add, z_mul, z_sub, z_div, Nat.not_lt_zero, z_cl, z_le, z_lt, z_eq, z_inb, z_nz, z_isB0, z_notJ, z_notI, z_isB1, z_m1, z_pos, z_pos', z_nlt, z_nle', z_m1le, z_m1a, z_nle, z_sI0, z_sI1, z_sI2, z_sI3, z_sJ0, z_sJ1, z_sJ2, z_sJ3, z_sF0, z_sF1, z_sF2, z_sA0, z_sA1, z_sA2, z_sA3, z_sAA, z_sIA, ↓reduceIte, Nat.reduceEqDiff, Nat.reduceLeDiff, Nat.reduceLT, z_l0, z_l1, z_l2, z_l3, z_l4, z_l5, z_l6, z_l7, z_l8, z_l9, z_l10, z_l11, z_l12, z_l13, z_l14, z_l15, z_l16, z_l17, z_l18, z_l19, z_l20, z_l21, z_l22, z_l23, z_l24, z_l25, z_l26, z_l27, z_l28, z_l32, z_l48, z_l56, z_l57, z_l59, z_l63, z_l64, z_l96, z_l97, z_l122, z_l127, z_l152, z_l158, z_l182, z_l255, z_l256, z_l310, z_l342, z_l406, z_l440, z_l729, z_l800, z_l3960, z_l14336, z_l14592, z_l100000, h56, Nat.zero_le]
        exact hk
      · rw [hd, if_pos rfl] at h56
        by_cases hp0 : p = 0
        · subst hp0
          have hk0 : k = 0 := hp3.symm
          subst hk0
          have em : nI 0 - nI 1 = im1 := by decide
          simp (disch := omega) only [z_gt, z_o1, z_o2, z_o3, z_o4, z_o5, z_o6, z_o7, z_o8, z_o9, z_bn, z_jn, nI_add, z_mul, z_sub, z_div, Nat.not_lt_zero, z_cl, z_le, z_lt, z_eq, z_inb, z_nz, z_isB0, z_notJ, z_notI, z_isB1, z_m1, z_pos, z_pos', z_nlt, z_nle', z_m1le, z_m1a, z_nle, z_sI0, z_sI1, z_sI2, z_sI3, z_sJ0, z_sJ1, z_sJ2, z_sJ3, z_sF0, z_sF1, z_sF2, z_sA0, z_sA1, z_sA2, z_sA3, z_sAA, z_sIA, ↓reduceIte, Nat.reduceEqDiff, Nat.reduceLeDiff, Nat.reduceLT, z_l0, z_l1, z_l2, z_l3, z_l4, z_l5, z_l6, z_l7, z_l8, z_l9, z_l10, z_l11, z_l12, z_l13, z_l14, z_l15, z_l16, z_l17, z_l18, z_l19, z_l20, z_l21, z_l22, z_l23, z_l24, z_l25, z_l26, z_l27, z_l28, z_l32, z_l48, z_l56, z_l57, z_l59, z_l63, z_l64, z_l96, z_l97, z_l122, z_l127, z_l152, z_l158, z_l182, z_l255, z_l256, z_l310, z_l342, z_l406, z_l440, z_l729, z_l800, z_l3960, z_l14336, z_l14592, z_l100000, h56, em]
          rfl
        · obtain ⟨i, rfl⟩ : ∃ i, p = i + 1 := ⟨p - 1, by omega⟩
          have hc : cnt (fun f => FPb r (f + 1)) i = k - 1 := by
            rw [Nat.add_comm, cnt_one, hd, if_pos rfl] at hp3
            omega
          have hk1 : 1 ≤ k := by
            rw [Nat.add_comm, cnt_one, hd, if_pos rfl] at hp3
            omega
          have hk := h_kth hw hz (by omega) hp2 hc
          simp (disch := omega) only [z_gt, z_o1, z_o2, z_o3, z_o4, z_o5, z_o6, z_o7, z_o8, z_o9, z_bn, z_jn, nI_add, z_mul, z_sub, z_div, Nat.not_lt_zero, z_cl, z_le, z_lt, z_eq, z_inb, z_nz, z_isB0, z_notJ, z_notI, z_isB1, z_m1, z_pos, z_pos', z_nlt, z_nle', z_m1le, z_m1a, z_nle, z_sI0, z_sI1, z_sI2, z_sI3, z_sJ0, z_sJ1, z_sJ2, z_sJ3, z_sF0, z_sF1, z_sF2, z_sA0, z_sA1, z_sA2, z_sA3, z_sAA, z_sIA, ↓reduceIte, Nat.reduceEqDiff, Nat.reduceLeDiff, Nat.reduceLT, z_l0, z_l1, z_l2, z_l3, z_l4, z_l5, z_l6, z_l7, z_l8, z_l9, z_l10, z_l11, z_l12, z_l13, z_l14, z_l15, z_l16, z_l17, z_l18, z_l19, z_l20, z_l21, z_l22, z_l23, z_l24, z_l25, z_l26, z_l27, z_l28, z_l32, z_l48, z_l56, z_l57, z_l59, z_l63, z_l64, z_l96, z_l97, z_l122, z_l127, z_l152, z_l158, z_l182, z_l255, z_l256, z_l310, z_l342, z_l406, z_l440, z_l729, z_l800, z_l3960, z_l14336, z_l14592, z_l100000, h56, Nat.zero_le]
          exact hk
  · have hisin := g_isIn_n h1 (by omega)
    rw [z_l0, z_l1] at hisin
    refine ⟨3, nI 0, vF', vRT', vG', vB', nI 0, sF v2 0 (nI 1), ?_, hF', ?_, Q2.tr (QM.th _ _), Or.inr ⟨rfl, z_sF1 _ _ _⟩⟩
    · unfold f_X7_suspect
      rw [e, z_o5, z_jn]
      by_cases h : x1 < 0
      · rw [if_pos h]
        rfl
      · rw [if_neg h, if_neg]
        · rfl
        · rcases h1 with h1 | h1
          · exact absurd h1 h
          · exact Int32.not_lt.mpr h1
    · unfold f_X8_suspect
      rw [z_l0, z_l1, z_bn, e2, z_o2, hisin, z_o1, g_right0 t2 (by omega) (by omega), z_o2]
      simp (disch := omega) only [z_gt, z_o1, z_o2, z_o3, z_o4, z_o5, z_o6, z_o7, z_o8, z_o9, z_bn, z_jn, nI_add, z_mul, z_sub, z_div, Nat.not_lt_zero, z_cl, z_le, z_lt, z_eq, z_inb, z_nz, z_isB0, z_notJ, z_notI, z_isB1, z_m1, z_pos, z_pos', z_nlt, z_nle', z_m1le, z_m1a, z_nle, z_sI0, z_sI1, z_sI2, z_sI3, z_sJ0, z_sJ1, z_sJ2, z_sJ3, z_sF0, z_sF1, z_sF2, z_sA0, z_sA1, z_sA2, z_sA3, z_sAA, z_sIA, ↓reduceIte, Nat.reduceEqDiff, Nat.reduceLeDiff, Nat.reduceLT, z_l0, z_l1, z_l2, z_l3, z_l4, z_l5, z_l6, z_l7, z_l8, z_l9, z_l10, z_l11, z_l12, z_l13, z_l14, z_l15, z_l16, z_l17, z_l18, z_l19, z_l20, z_l21, z_l22, z_l23, z_l24, z_l25, z_l26, z_l27, z_l28, z_l32, z_l48, z_l56, z_l57, z_l59, z_l63, z_l64, z_l96, z_l97, z_l122, z_l127, z_l152, z_l158, z_l182, z_l255, z_l256, z_l310, z_l342, z_l406, z_l440, z_l729, z_l800, z_l3960, z_l14336, z_l14592, z_l100000]
/-! the test that tells most -/
def upN (f : Nat → Nat) (c x : Nat) : Nat → Nat := fun j => if j = c then x else f j
theorem mxf_up {f : Nat → Nat} {c : Nat} : ∀ n, mxf (upN f c (f c + 1)) n = if c < n ∧ mxf f n < f c + 1 then f c + 1 else mxf f n
  | 0 => by
    rw [if_neg (by omega)]
    rfl
  | n + 1 => by
    have ih := mxf_up (f := f) (c := c) n
    have e1 : mxf (upN f c (f c + 1)) (n + 1) = if upN f c (f c + 1) n ≤ mxf (upN f c (f c + 1)) n then mxf (upN f c (f c + 1)) n else upN f c (f c + 1) n := rfl
    have e2 : mxf f (n + 1) = if f n ≤ mxf f n then mxf f n else f n := rfl
    rw [e1, e2, ih]
    by_cases h : n = c
    · have e3 : upN f c (f c + 1) n = f c + 1 := by unfold upN; rw [if_pos h]
      rw [e3, h]
      subst h
      generalize mxf f n = M
      generalize f n = a
      (repeat' split) <;> omega
    · have e3 : upN f c (f c + 1) n = f n := by unfold upN; rw [if_neg h]
      rw [e3]
      generalize mxf f n = M
      generalize f n = a
      generalize f c = b
      (repeat' split) <;> omega
theorem mxf_cases (f : Nat → Nat) : ∀ n, mxf f n = 0 ∨ ∃ k, k < n ∧ mxf f n = f k
  | 0 => Or.inl rfl
  | n + 1 => by
    have e2 : mxf f (n + 1) = if f n ≤ mxf f n then mxf f n else f n := rfl
    rw [e2]
    by_cases h : f n ≤ mxf f n
    · rw [if_pos h]
      rcases mxf_cases f n with q | ⟨k, hk, q⟩
      · exact Or.inl q
      · exact Or.inr ⟨k, by omega, q⟩
    · rw [if_neg h]
      exact Or.inr ⟨n, by omega, rfl⟩
theorem mxf_z : ∀ n, mxf (fun _ => 0) n = 0
  | 0 => rfl
  | n + 1 => by
    show (if 0 ≤ mxf (fun _ => 0) n then mxf (fun _ => 0) n else 0) = 0
    rw [mxf_z n]
    rfl
/-- which part p is in, for test t -/
def PV (r : Nat → Int32) (t p : Nat) : Nat := partN (bad r (tv r t) p) r (NO r)
def CN (r : Nat → Int32) (t c : Nat) : Nat := cnt (fun p => FPb r p && decide (PV r t p = c)) (NF r + 1)
/-- the greatest part -/
def GP (r : Nat → Int32) (t : Nat) : Nat := mxf (CN r t) 729
theorem PV_lt {r : Nat → Int32} (hw : WFc r) (ht : WFt r) {t p : Nat} (h1 : t < NT r) : PV r t p < 729 := partN_729 hw (fun i hi => (ht.2.1 t i h1 hi).2) (Nat.le_refl _)
theorem cnt_step (Q : Nat → Bool) (V : Nat → Nat) (k : Nat) (h : Q k = true) : (fun c => cnt (fun j => Q j && decide (V j = c)) (k + 1)) = upN (fun c => cnt (fun j => Q j && decide (V j = c)) k) (V k) (cnt (fun j => Q j && decide (V j = V k)) k + 1) := by
  funext c
  show cnt (fun j => Q j && decide (V j = c)) k + (if Q k && decide (V k = c) then 1 else 0) = _
  unfold upN
  rw [h, Bool.true_and]
  by_cases e : c = V k
  · rw [if_pos e, ← e]
    simp
  · have : ¬ V k = c := fun q => e q.symm
    rw [if_neg e]
    simp [this]
theorem cnt_stay (Q : Nat → Bool) (V : Nat → Nat) (k : Nat) (h : Q k = false) : (fun c => cnt (fun j => Q j && decide (V j = c)) (k + 1)) = fun c => cnt (fun j => Q j && decide (V j = c)) k := by
  funext c
  show cnt (fun j => Q j && decide (V j = c)) k + (if Q k && decide (V k = c) then 1 else 0) = _
  rw [h]
  rfl
