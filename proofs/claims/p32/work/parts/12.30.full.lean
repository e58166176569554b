/-! testFor, testBetween, hidden, alike, classes, coverage -/
theorem DF_comm (r : Nat → Int32) (p q : Nat) : DF r p q = DF r q p := by
  funext N
  unfold DF
  by_cases h : BW r p N = BW r q N
  · simp [h]
  · have : ¬ BW r q N = BW r p N := fun z => h z.symm
    simp [h, this]
theorem fstI_or (p : Nat → Bool) (n : Nat) : fstI p n = im1 ∨ ∃ k, k < n ∧ fstI p n = nI k := by
  unfold fstI
  by_cases h : fst p n < n
  · rw [if_pos h]; exact Or.inr ⟨_, h, rfl⟩
  · rw [if_neg h]; exact Or.inl rfl
theorem y_first {r : Nat → Int32} (hw : WFc r) {vC vR : Vs} (hC : RC r vC) (h4 : vR.1 4 = nI 4) (hR : FR r vR) {f g : Nat} (hf : f < NF r) (hg : g < NF r) : f_X3_firstApart 1368 vR vC (nI f) (nI g) = some (fstI (DF r (f + 1) (g + 1)) (2 ^ NI r)) := x_firstApart hw hC h4 hR (p := f + 1) (q := g + 1) (by omega) (by omega)
theorem y_first0 {r : Nat → Int32} (hw : WFc r) {vC vR : Vs} (hC : RC r vC) (h4 : vR.1 4 = nI 4) (hR : FR r vR) {g : Nat} (hg : g < NF r) : f_X3_firstApart 1368 vR vC im1 (nI g) = some (fstI (DF r (g + 1) 0) (2 ^ NI r)) := by
  rw [DF_comm]
  exact x_firstApart hw hC h4 hR (p := 0) (q := g + 1) (by omega) (by omega)
/-- no full test finds fault f -/
def HB (r : Nat → Int32) (f : Nat) : Bool := decide (fstI (DF r (f + 1) 0) (2 ^ NI r) = im1)
def HN (r : Nat → Int32) : Nat := cnt (HB r) (NF r)
theorem HN_le (r : Nat → Int32) : HN r ≤ NF r := cnt_le _ _
theorem y_hidden {r : Nat → Int32} (hw : WFc r) {vF vC vRT vG vRF vGF vBF : Vs} (hC : RC r vC) (hF : FI r vF vRT vG vRF) :
    ∃ vF' vRF' vGF' vBF', f_X7_hidden vF vC 1368 vRF vGF vBF = some (nI (HN r), vF', vRF', vGF', vBF') ∧ FI r vF' vRT vG vRF' := by
  have hn := hw.nf
  have hFu := fulls_256 hw
  obtain ⟨vF', vRF', vGF', vBF', e, hF', hFR, -⟩ := y_refreshFull hw (vGF := vGF) (vBF := vBF) hC hF
  refine ⟨vF', vRF', vGF', vBF', ok_get ?_, hF'⟩
  unfold f_X7_hidden
  rw [e, z_o4]
  refine ok_o1e (x_faultCount hC) ?_
  refine zl2 (I := fun m x y => ∃ f, x = nI (cnt (HB r) f) ∧ y = nI f ∧ f ≤ NF r ∧ m = NF r - f) ?_ FU (NF r) _ _ (by unfold FU; omega) ⟨0, rfl, rfl, by omega, by omega⟩
  rintro m x y self ⟨f, rfl, rfl, hle, rfl⟩ ih
  unfold f_X7_hidden_L19
  by_cases hb : NF r ≤ f
  · rw [ift hb (by omega)]
    have e : f = NF r := by omega
    subst e
    exact ok_some rfl
  · rw [iff_ hb (by omega)]
    have hc := cnt_le (HB r) f
    have ec : cnt (HB r) (f + 1) = cnt (HB r) f + (if HB r f then 1 else 0) := rfl
    have ih' := ih (NF r - (f + 1)) (nI (cnt (HB r) (f + 1))) (nI (f + 1)) (by omega) ⟨f + 1, rfl, rfl, by omega, rfl⟩
    rw [ec] at ih'
    refine ok_o1e (y_first0 hw hC hF'.2.2.2.1 hFR (g := f) (by omega)) ?_
    rcases fstI_or (DF r (f + 1) 0) (2 ^ NI r) with z | ⟨k, hk, z⟩
    · have hd : HB r f = true := by simp [HB, z]
      rw [hd, if_pos rfl] at ih'
      rw [z]
      simp (disch := omega) only [z_gt, z_o1, z_o2, z_o3, z_o4, z_o5, z_o6, z_o7, z_o8, z_o9, z_bn, z_jn, nI_add, z_mul, z_sub, z_div, Nat.not_lt_zero, z_cl, z_le, z_lt, z_eq, z_inb, z_nz, z_isB0, z_notJ, z_notI, z_isB1, z_m1, z_pos, z_pos', z_nlt, z_nle', z_m1le, z_m1a, z_nle, z_sI0, z_sI1, z_sI2, z_sI3, z_sJ0, z_sJ1, z_sJ2, z_sJ3, z_sF0, z_sF1, z_sF2, z_sA0, z_sA1, z_sA2, z_sA3, z_sAA, z_sIA, ↓reduceIte, Nat.reduceEqDiff, Nat.reduceLeDiff, Nat.reduceLT, z_l0, z_l1, z_l2, z_l3, z_l4, z_l5, z_l6, z_l7, z_l8, z_l9, z_l10, z_l11, z_l12, z_l13, z_l14, z_l15, z_l16, z_l17, z_l18, z_l19, z_l20, z_l21, z_l22, z_l23, z_l24, z_l25, z_l26, z_l27, z_l28, z_l32, z_l48, z_l56, z_l57, z_l59, z_l63, z_l64, z_l96, z_l97, z_l122, z_l127, z_l152, z_l158, z_l182, z_l255, z_l256, z_l310, z_l342, z_l406, z_l440, z_l729, z_l800, z_l3960, z_l14336, z_l14592, z_l100000]
      exact ih'
    · have hne : ¬ nI k = im1 := fun q => (z_pos' (by omega)).mp q
      have hd : HB r f = false := by simp [HB, z, hne]
      rw [hd, if_neg (by decide)] at ih'
      rw [z]
      simp (disch := omega) only [z_gt, z_o1, z_o2, z_o3, z_o4, z_o5, z_o6, z_o7, z_o8, z_o9, z_bn, z_jn, nI_add, z_mul, z_sub, z_div, Nat.not_lt_zero, z_cl, z_le, z_lt, z_eq, z_inb, z_nz, z_isB0, z_notJ, z_notI, z_isB1, z_m1, z_pos, z_pos', z_nlt, z_nle', z_m1le, z_m1a, z_nle, z_sI0, z_sI1, z_sI2, z_sI3, z_sJ0, z_sJ1, z_sJ2, z_sJ3, z_sF0, z_sF1, z_sF2, z_sA0, z_sA1, z_sA2, z_sA3, z_sAA, z_sIA, ↓reduceIte, Nat.reduceEqDiff, Nat.reduceLeDiff, Nat.reduceLT, z_l0, z_l1, z_l2, z_l3, z_l4, z_l5, z_l6, z_l7, z_l8, z_l9, z_l10, z_l11, z_l12, z_l13, z_l14, z_l15, z_l16, z_l17, z_l18, z_l19, z_l20, z_l21, z_l22, z_l23, z_l24, z_l25, z_l26, z_l27, z_l28, z_l32, z_l48, z_l56, z_l57, z_l59, z_l63, z_l64, z_l96, z_l97, z_l122, z_l127, z_l152, z_l158, z_l182, z_l255, z_l256, z_l310, z_l342, z_l406, z_l440, z_l729, z_l800, z_l3960, z_l14336, z_l14592, z_l100000, Nat.zero_le]
      exact ih'
/-- the least fault alike to f -/
def AB (r : Nat → Int32) (f g : Nat) : Bool := decide (fstI (DF r (f + 1) (g + 1)) (2 ^ NI r) = im1)
def fal (r : Nat → Int32) (f : Nat) : Nat := fst (AB r f) f
theorem AB_self (r : Nat → Int32) (f : Nat) : AB r f f = true := by
  unfold AB
  rw [fstI_no (fun k _ => by simp [DF])]
  simp
theorem x_firstAlike {r : Nat → Int32} (hw : WFc r) {vF vC vR : Vs} (hC : RC r vC) (h4 : vR.1 4 = nI 4) (hR : FR r vR) {f : Nat} (hf : f < NF r) : f_X7_firstAlike vF vC 1368 vR (nI f) = some (nI (fal r f)) := by
  have hn := hw.nf
  have hFu := fulls_256 hw
  refine ok_get ?_
  unfold f_X7_firstAlike
  refine zl1 (I := fun m x => ∃ g, x = nI g ∧ g ≤ f ∧ m = f - g ∧ ∀ j, j < g → AB r f j = false) ?_ FU f _ (by unfold FU; omega) ⟨0, rfl, by omega, by omega, fun j hj => by omega⟩
  rintro m x self ⟨g, rfl, hle, rfl, hz⟩ ih
  unfold f_X7_firstAlike_L2
  by_cases hb : f ≤ g
  · rw [ift hb (by omega)]
    have e : g = f := by omega
    subst e
    refine ok_some (congrArg nI ?_)
    exact (fst_no g hz).symm
  · rw [iff_ hb (by omega)]
    refine ok_o1e (y_first hw hC h4 hR hf (by omega)) ?_
    rcases fstI_or (DF r (f + 1) (g + 1)) (2 ^ NI r) with z | ⟨k, hk, z⟩
    · have hd : AB r f g = true := by simp [AB, z]
      rw [z]
      simp (disch := omega) only [z_gt, z_o1, z_o2, z_o3, z_o4, z_o5, z_o6, z_o7, z_o8, z_o9, z_bn, z_jn, nI_add, z_mul, z_sub, z_div, Nat.not_lt_zero, z_cl, z_le, z_lt, z_eq, z_inb, z_nz, z_isB0, z_notJ, z_notI, z_isB1, z_m1, z_pos, z_pos', z_nlt, z_nle', z_m1le, z_m1a, z_nle, z_sI0, z_sI1, z_sI2, z_sI3, z_sJ0, z_sJ1, z_sJ2, z_sJ3, z_sF0, z_sF1, z_sF2, z_sA0, z_sA1, z_sA2, z_sA3, z_sAA, z_sIA, ↓reduceIte, Nat.reduceEqDiff, Nat.reduceLeDiff, Nat.reduceLT, z_l0, z_l1, z_l2, z_l3, z_l4, z_l5, z_l6, z_l7, z_l8, z_l9, z_l10, z_l11, z_l12, z_l13, z_l14, z_l15, z_l16, z_l17, z_l18, z_l19, z_l20, z_l21, z_l22, z_l23, z_l24, z_l25, z_l26, z_l27, z_l28, z_l32, z_l48, z_l56, z_l57, z_l59, z_l63, z_l64, z_l96, z_l97, z_l122, z_l127, z_l152, z_l158, z_l182, z_l255, z_l256, z_l310, z_l342, z_l406, z_l440, z_l729, z_l800, z_l3960, z_l14336, z_l14592, z_l100000]
      refine ok_some (congrArg nI ?_)
      exact (fst_yes f g (by omega) hd hz).symm
    · have hne : ¬ nI k = im1 := fun q => (z_pos' (by omega)).mp q
      have hd : AB r f g = false := by simp [AB, z, hne]
      have ih' := ih (f - (g + 1)) (nI (g + 1)) (by omega) ⟨g + 1, rfl, by omega, rfl, fun j hj => by
        by_cases hj2 : j = g
        · rw [hj2]; exact hd
        · exact hz j (by omega)⟩
      rw [z]
      simp (disch := omega) only [z_gt, z_o1, z_o2, z_o3, z_o4, z_o5, z_o6, z_o7, z_o8, z_o9, z_bn, z_jn, nI_add, z_mul, z_sub, z_div, Nat.not_lt_zero, z_cl, z_le, z_lt, z_eq, z_inb, z_nz, z_isB0, z_notJ, z_notI, z_isB1, z_m1, z_pos, z_pos', z_nlt, z_nle', z_m1le, z_m1a, z_nle, z_sI0, z_sI1, z_sI2, z_sI3, z_sJ0, z_sJ1, z_sJ2, z_sJ3, z_sF0, z_sF1, z_sF2, z_sA0, z_sA1, z_sA2, z_sA3, z_sAA, z_sIA, ↓reduceIte, Nat.reduceEqDiff, Nat.reduceLeDiff, Nat.reduceLT, z_l0, z_l1, z_l2, z_l3, z_l4, z_l5, z_l6, z_l7, z_l8, z_l9, z_l10, z_l11, z_l12, z_l13, z_l14, z_l15, z_l16, z_l17, z_l18, z_l19, z_l20, z_l21, z_l22, z_l23, z_l24, z_l25, z_l26, z_l27, z_l28, z_l32, z_l48, z_l56, z_l57, z_l59, z_l63, z_l64, z_l96, z_l97, z_l122, z_l127, z_l152, z_l158, z_l182, z_l255, z_l256, z_l310, z_l342, z_l406, z_l440, z_l729, z_l800, z_l3960, z_l14336, z_l14592, z_l100000, Nat.zero_le]
      exact ih'
def CB (r : Nat → Int32) (f : Nat) : Bool := decide (fal r f = f)
theorem fal_le (r : Nat → Int32) (f : Nat) : fal r f ≤ f := by
  unfold fal
  by_cases h : ∃ k, k < f ∧ AB r f k = true
  · have := (fst_is h).1
    omega
  · rw [fst_no f (fun k hk => by
      cases hq : AB r f k with
      | false => rfl
      | true => exact absurd ⟨k, hk, hq⟩ h)]
    exact Nat.le_refl _
theorem fbN_0 (r : Nat → Int32) (f : Nat) : ∀ n, fbN r f n ≠ 0 ↔ ∃ t, t < n ∧ FD r t f = true
  | 0 => by
    constructor
    · intro h; exact absurd rfl h
    · rintro ⟨t, h, _⟩; omega
  | n + 1 => by
    have ih := fbN_0 r f n
    have e : fbN r f (n + 1) = fbN r f n + (if FD r n f then 2 ^ n else 0) := rfl
    have hp := Nat.two_pow_pos n
    constructor
    · intro h
      cases hd : FD r n f with
      | true => exact ⟨n, by omega, hd⟩
      | false =>
        rw [e, hd, if_neg (by decide), Nat.add_zero] at h
        obtain ⟨t, h1, h2⟩ := ih.mp h
        exact ⟨t, by omega, h2⟩
    · rintro ⟨t, h1, h2⟩
      rw [e]
      by_cases hq : t = n
      · rw [hq] at h2
        rw [h2, if_pos rfl]
        omega
      · have := ih.mpr ⟨t, by omega, h2⟩
        omega
/-- how many faults at least one test finds -/
def FM (r : Nat → Int32) : Nat := cnt (fun f => decide (fbN r f (NT r) ≠ 0)) (NF r)
theorem all_FM {r : Nat → Int32} (hw : WFc r) {all : Int64} (h : ∀ f, f < 64 → (bJ all f = true ↔ ∃ t, t < NT r ∧ f < NF r ∧ FD r t f = true)) : f_J13_bitCount_95d88 all = some (nI (FM r)) := by
  have hn := hw.nf
  rw [x_bitCount]
  refine congrArg some (congrArg nI ?_)
  unfold FM
  rw [cnt_cut (m := NF r) 64 (by omega) (fun k h1 h2 => by
    cases hq : bJ all k with
    | false => rfl
    | true =>
      obtain ⟨t, -, h3, -⟩ := (h k h2).mp hq
      omega)]
  refine cnt_cong _ (fun k hk => ?_)
  have h1 := h k (by omega)
  have h2 := fbN_0 r k (NT r)
  cases hq : bJ all k
  · symm
    rw [decide_eq_false_iff_not]
    intro z
    obtain ⟨t, a, b⟩ := h2.mp z
    have := h1.mpr ⟨t, a, hk, b⟩
    rw [hq] at this
    cases this
  · symm
    rw [decide_eq_true_iff]
    obtain ⟨t, a, -, b⟩ := h1.mp hq
    exact h2.mpr ⟨t, a, b⟩
