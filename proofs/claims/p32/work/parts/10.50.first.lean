/-! the class: the first full test that tells two apart; parts -/
theorem good_ask {r : Nat → Int32} (hw : WFc r) {a b : Nat → Nat} (h : ∀ i, i < NI r → a i = b i) : ∀ n w, w < n → w < NW r → good r a w = good r b w
  | 0, w, hn, _ => by omega
  | n + 1, w, hn, h2 => by
    by_cases h1 : w < NI r
    · rw [good_in h1, good_in h1]; exact h w h1
    · rw [good_at hw h1 h2, good_at hw h1 h2]
      have h3 := hw.2.2.2.2.2.1 w (by omega) h2
      exact gval_cong (fun k hk => have h4 := (hw.2.2.2.2.2.2.1 w k (by omega) h2 hk).2; good_ask hw h n _ (by omega) (by omega)) h3.2.2.1
theorem told_ask {r : Nat → Int32} (hw : WFc r) {a b : Nat → Nat} (h : ∀ i, i < NI r → a i = b i) {p w : Nat} (hp : p ≤ NF r) : told r a p w = told r b p w := by
  have hn := hw.nf
  unfold told
  by_cases h0 : p = 0
  · rw [if_pos h0, if_pos h0]
  · rw [if_neg h0, if_neg h0]
    by_cases h1 : p - 1 < 2 * NW r
    · rw [if_pos h1, if_pos h1]
    · rw [if_neg h1, if_neg h1]
      have hb := hw.2.2.2.2.2.2.2.2 (p - 1 - 2 * NW r) (by omega)
      rw [good_ask hw h (ba r (p - 1 - 2 * NW r) + 1) _ (by omega) hb.2.1.2, good_ask hw h (bb r (p - 1 - 2 * NW r) + 1) _ (by omega) hb.2.2.2]
theorem bad_ask {r : Nat → Int32} (hw : WFc r) {a b : Nat → Nat} (h : ∀ i, i < NI r → a i = b i) {p : Nat} (hp : p ≤ NF r) : ∀ n w, w < n → w < NW r → bad r a p w = bad r b p w
  | 0, w, hn, _ => by omega
  | n + 1, w, hn, h2 => by
    have e := told_ask hw h (p := p) (w := w) hp
    cases h0 : told r a p w with
    | some v => rw [bad_some h0, bad_some (e ▸ h0)]
    | none =>
      have h0' : told r b p w = none := e ▸ h0
      by_cases h1 : w < NI r
      · rw [bad_in h0 h1, bad_in h0' h1]; exact h w h1
      · rw [bad_at hw h0 h1 h2, bad_at hw h0' h1 h2]
        have h3 := hw.2.2.2.2.2.1 w (by omega) h2
        exact gval_cong (fun k hk => have h4 := (hw.2.2.2.2.2.2.1 w k (by omega) h2 hk).2; bad_ask hw h hp n _ (by omega) (by omega)) h3.2.2.1
theorem fq_mod {N m i : Nat} (h : i < m) : fq (N % 2 ^ m) i = fq N i := by
  have h1 : (N % 2 ^ m).testBit i = N.testBit i := by
    rw [Nat.testBit_mod_two_pow]
    simp [h]
  unfold fq
  have t := fun (X : Nat) => Nat.testBit_eq_decide_div_mod_eq (x := X) (i := i)
  rw [t, t] at h1
  have a1 : N % 2 ^ m / 2 ^ i % 2 < 2 := Nat.mod_lt _ (by omega)
  have a2 : N / 2 ^ i % 2 < 2 := Nat.mod_lt _ (by omega)
  by_cases q : N / 2 ^ i % 2 = 1
  · rw [q] at h1 ⊢
    simpa using h1
  · have q0 : N / 2 ^ i % 2 = 0 := by omega
    rw [q0] at h1 ⊢
    have : ¬ (N % 2 ^ m / 2 ^ i % 2 = 1) := by simpa using h1
    omega
theorem apart_DF {r : Nat → Int32} (hw : WFc r) {p q : Nat} (hp : p ≤ NF r) (hq : q ≤ NF r) (N : Nat) : apartN (bad r (fq N) p) (bad r (fq N) q) r (NO r) ↔ DF r p q N = true := by
  have h1 : ∀ u, u ≤ NF r → ∀ o, o < NO r → bad r (fq N) u (ou r o) ≤ 1 := fun u hu o ho => bad_1 hw (fun i _ => fq_1 N i) hu (ou r o + 1) _ (by omega) (hw.2.2.2.2.2.2.2.1 o ho).2
  unfold DF
  rw [decide_eq_true_iff]
  constructor
  · rintro ⟨o, ho, -, -, hne⟩ e
    exact hne (bitsN_inj (NO r) (h1 p hp) (h1 q hq) e o ho)
  · intro hne
    refine Classical.byContradiction (fun hA => hne (bitsN_cong _ (fun o ho => ?_)))
    refine Classical.byContradiction (fun hd => hA ⟨o, ho, ?_, ?_, hd⟩)
    · have := h1 p hp o ho
      omega
    · have := h1 q hq o ho
      omega
theorem DF_mod {r : Nat → Int32} (hw : WFc r) {p q : Nat} (hp : p ≤ NF r) (hq : q ≤ NF r) (N : Nat) : DF r p q (N % 2 ^ NI r) = DF r p q N := by
  have h : ∀ u, u ≤ NF r → BW r u (N % 2 ^ NI r) = BW r u N := fun u hu => bitsN_cong _ (fun o ho => bad_ask hw (fun i hi => fq_mod hi) hu (ou r o + 1) _ (by omega) (hw.2.2.2.2.2.2.2.1 o ho).2)
  unfold DF
  rw [h p hp, h q hq]
theorem fst_is {p : Nat → Bool} : ∀ {n : Nat}, (∃ k, k < n ∧ p k = true) → fst p n < n ∧ p (fst p n) = true ∧ ∀ j, j < fst p n → p j = false
  | 0, h => by
    obtain ⟨k, h, -⟩ := h
    omega
  | n + 1, h => by
    by_cases h1 : ∃ k, k < n ∧ p k = true
    · obtain ⟨a, b, c⟩ := fst_is h1
      have e : fst p (n + 1) = fst p n := by
        show (if fst p n < n then fst p n else if p n then n else n + 1) = _
        rw [if_pos a]
      rw [e]
      exact ⟨by omega, b, c⟩
    · have h2 : ∀ k, k < n → p k = false := fun k hk => by
        cases hp : p k with
        | false => rfl
        | true => exact absurd ⟨k, hk, hp⟩ h1
      obtain ⟨k, hk, hp⟩ := h
      have ek : k = n := by
        by_cases q : k < n
        · rw [h2 k q] at hp; cases hp
        · omega
      subst ek
      have e : fst p (k + 1) = k := fst_yes (k + 1) k (by omega) hp h2
      rw [e]
      exact ⟨by omega, hp, h2⟩
theorem low_bit : ∀ n, n < 64 → f_J13_bitCount_95d88 (((1 : Int64) <<< ((nI n).toInt64 &&& 63)) - 1) = some (nI n) := by decide +kernel
theorem low_is (x : Int64) {n : Nat} (hn : n < 64) (h1 : bJ x n = true) (h2 : ∀ j, j < n → bJ x j = false) : x &&& (-x) = (1 : Int64) <<< ((nI n).toInt64 &&& 63) := by
  apply bJ_ext
  intro k hk
  rw [bJ_and, bJ_shl1 hn]
  have hneg : bJ (-x) k = (bJ x k ^^ (decide (k < 64) && decide (∃ j, j < k ∧ bJ x j = true))) := by
    unfold bJ
    rw [Int64.toBitVec_neg]
    exact BitVec.getLsbD_neg
  rw [hneg]
  by_cases hk1 : k = n
  · subst hk1
    have hno : ¬ ∃ j, j < k ∧ bJ x j = true := by
      rintro ⟨j, hj, q⟩
      rw [h2 j hj] at q
      cases q
    simp [h1, hno]
  · by_cases hk2 : k < n
    · simp [h2 k hk2, hk1]
    · have hyes : ∃ j, j < k ∧ bJ x j = true := ⟨n, by omega, h1⟩
      cases hb : bJ x k
      · simp [hk1]
      · simp [hk1, hyes, hk]
theorem x_firstApart {r : Nat → Int32} (hw : WFc r) {vC vR : Vs} (hC : RC r vC) (h4 : vR.1 4 = nI 4) (hR : FR r vR) {p q : Nat} (hp : p ≤ NF r) (hq : q ≤ NF r) : f_X3_firstApart 1368 vR vC (fI p) (fI q) = some (fstI (DF r p q) (2 ^ NI r)) := by
  have hfw := fwords_4 hw
  have hn := hw.nf
  have hF := fulls_256 hw
  refine ok_get ?_
  unfold f_X3_firstApart
  refine ok_o1e (x_fullWords hw hC) ?_
  refine zl1 (I := fun m x => ∃ k, x = nI k ∧ k ≤ fwords r ∧ m = fwords r - k ∧ ∀ N, N < 64 * k → DF r p q N = false) ?_ FU (fwords r) _ (by unfold FU; omega) ⟨0, rfl, by omega, by omega, fun j hj => by omega⟩
  rintro m x self ⟨k, rfl, hle, rfl, hz⟩ ih
  unfold f_X3_firstApart_L16
  rw [h4, ilf (by omega) (by omega)]
  by_cases hb : fwords r ≤ k
  · rw [ift hb (by omega)]
    refine ok_some ?_
    rw [fstI_no (fun N hN => hz N (by omega))]
    rfl
  · rw [iff_ hb (by omega)]
    refine ok_o1 (x_apart hw (W := 4) (Or.inr rfl) hC h4 (ask := fun l => fq (64 * k + l)) (fun l i _ => by have := fq_1 (64 * k + l) i; omega) (k := k) (by omega) (hR k (by omega)) hp hq) ?_
    intro y hy
    have hy' : ∀ l, l < 64 → (bJ y l = true ↔ DF r p q (64 * k + l) = true) := fun l hl => (hy l hl).trans (apart_DF hw hp hq _)
    by_cases h0 : y = 0
    · rw [if_pos ((lg_cmp_eq _ _).mpr h0), z_l1, nI_add]
      refine ih _ _ (by omega) ⟨k + 1, rfl, by omega, rfl, fun N hN => ?_⟩
      by_cases hN2 : N < 64 * k
      · exact hz N hN2
      · have e : N = 64 * k + (N - 64 * k) := by omega
        cases hd : DF r p q N with
        | false => rfl
        | true =>
          rw [e] at hd
          have := (hy' (N - 64 * k) (by omega)).mpr hd
          rw [h0, bJ_0] at this
          cases this
    · rw [if_neg (fun z => h0 ((lg_cmp_eq _ _).mp z))]
      have hex : ∃ l, l < 64 ∧ bJ y l = true := by
        refine Classical.byContradiction (fun hno => h0 ?_)
        rw [bJ_ne0]
        intro l hl
        cases hb2 : bJ y l with
        | false => rfl
        | true => exact absurd ⟨l, hl, hb2⟩ hno
      obtain ⟨l1, l2, l3⟩ := fst_is hex
      generalize fst (bJ y) 64 = L at l1 l2 l3
      rw [low_is y l1 l2 l3]
      refine ok_o1e (low_bit L l1) ?_
      rw [z_l64, z_mul, nI_add]
      refine ok_some ?_
      have hD : DF r p q (64 * k + L) = true := (hy' L l1).mp l2
      have hmin : ∀ N, N < 64 * k + L → DF r p q N = false := fun N hN => by
        by_cases hN2 : N < 64 * k
        · exact hz N hN2
        · have e : N = 64 * k + (N - 64 * k) := by omega
          cases hd : DF r p q N with
          | false => rfl
          | true =>
            rw [e] at hd
            have := (hy' (N - 64 * k) (by omega)).mpr hd
            rw [l3 (N - 64 * k) (by omega)] at this
            cases this
      have hlt : 64 * k + L < 2 ^ NI r := by
        by_cases h6 : 6 ≤ NI r
        · have := hfw.2.2.2 h6
          omega
        · refine Classical.byContradiction (fun hge => ?_)
          have hm : (64 * k + L) % 2 ^ NI r < 64 * k + L := by
            have := Nat.mod_lt (64 * k + L) (y := 2 ^ NI r) (by omega)
            omega
          have := hmin _ hm
          rw [DF_mod hw hp hq, hD] at this
          cases this
      rw [fstI_yes hlt hD hmin]
      exact congrArg nI (by omega)
def partN (c : Nat → Nat) (r : Nat → Int32) : Nat → Nat
  | 0 => 0
  | o + 1 => partN c r o * 3 + c (ou r o)
theorem partN_lt {c : Nat → Nat} {r : Nat → Int32} : ∀ n, (∀ o, o < n → c (ou r o) ≤ 2) → partN c r n < 3 ^ n
  | 0, _ => by simp [partN]
  | n + 1, h => by
    have h1 := partN_lt n (fun o ho => h o (by omega))
    have h2 := h n (by omega)
    show partN c r n * 3 + c (ou r n) < _
    rw [Nat.pow_succ]
    omega
theorem partN_729 {r : Nat → Int32} (hw : WFc r) {ask : Nat → Nat} (ha : ∀ i, i < NI r → ask i ≤ 2) {p : Nat} {o : Nat} (ho : o ≤ NO r) : partN (bad r ask p) r o < 729 := by
  have hn := hw.nf
  have h1 := partN_lt (c := bad r ask p) (r := r) o (fun u hu => bad_2 hw ha p (ou r u + 1) _ (by omega) (hw.2.2.2.2.2.2.2.1 u (by omega)).2)
  have h2 : 3 ^ o ≤ 3 ^ 6 := Nat.pow_le_pow_right (by omega) (by omega)
  omega
theorem x_lane {v : Vs} {w t : Nat} (h24 : w < 24) (h64 : t < 64) {f : Nat → Nat} (hL : LW v w f) (h2 : f t ≤ 2) : f_X2_lane v (nI w) (nI t) = some (nI (f t)) := by
  obtain ⟨a1, a2⟩ := hL t h64
  have hv : f t = 0 ∨ f t = 1 ∨ f t = 2 := by omega
  unfold f_X2_lane
  rcases hv with hv | hv | hv
  · have h1 : f_X7_hasLane (v.2.2 0 w) (nI t) = some (nI 1) := x_hl1 h64 (by rw [a1, hv]; rfl)
    rw [hv]
    simp (disch := omega) only [z_gt, z_o1, z_o2, z_o3, z_o4, z_o5, z_o6, z_o7, z_o8, z_o9, z_bn, z_jn, nI_add, z_mul, z_sub, z_div, Nat.not_lt_zero, z_cl, z_le, z_lt, z_eq, z_inb, z_nz, z_isB0, z_notJ, z_notI, z_isB1, z_m1, z_pos, z_pos', z_nlt, z_nle', z_m1le, z_m1a, z_nle, z_sI0, z_sI1, z_sI2, z_sI3, z_sJ0, z_sJ1, z_sJ2, z_sJ3, z_sF0, z_sF1, z_sF2, z_sA0, z_sA1, z_sA2, z_sA3, z_sAA, z_sIA, ↓reduceIte, Nat.reduceEqDiff, Nat.reduceLeDiff, Nat.reduceLT, z_l0, z_l1, z_l2, z_l3, z_l4, z_l5, z_l6, z_l7, z_l8, z_l9, z_l10, z_l11, z_l12, z_l13, z_l14, z_l15, z_l16, z_l17, z_l18, z_l19, z_l20, z_l21, z_l22, z_l23, z_l24, z_l25, z_l26, z_l27, z_l28, z_l32, z_l48, z_l56, z_l57, z_l59, z_l63, z_l64, z_l96, z_l97, z_l122, z_l127, z_l152, z_l158, z_l182, z_l255, z_l256, z_l310, z_l342, z_l406, z_l440, z_l729, z_l800, z_l3960, z_l14336, z_l14592, z_l100000, h1]
  · have h1 : f_X7_hasLane (v.2.2 0 w) (nI t) = some (nI 0) := x_hl0 h64 (by rw [a1, hv]; rfl)
    have h3 : f_X7_hasLane (v.2.2 1 w) (nI t) = some (nI 1) := x_hl1 h64 (by rw [a2, hv]; rfl)
    rw [hv]
    simp (disch := omega) only [z_gt, z_o1, z_o2, z_o3, z_o4, z_o5, z_o6, z_o7, z_o8, z_o9, z_bn, z_jn, nI_add, z_mul, z_sub, z_div, Nat.not_lt_zero, z_cl, z_le, z_lt, z_eq, z_inb, z_nz, z_isB0, z_notJ, z_notI, z_isB1, z_m1, z_pos, z_pos', z_nlt, z_nle', z_m1le, z_m1a, z_nle, z_sI0, z_sI1, z_sI2, z_sI3, z_sJ0, z_sJ1, z_sJ2, z_sJ3, z_sF0, z_sF1, z_sF2, z_sA0, z_sA1, z_sA2, z_sA3, z_sAA, z_sIA, ↓reduceIte, Nat.reduceEqDiff, Nat.reduceLeDiff, Nat.reduceLT, z_l0, z_l1, z_l2, z_l3, z_l4, z_l5, z_l6, z_l7, z_l8, z_l9, z_l10, z_l11, z_l12, z_l13, z_l14, z_l15, z_l16, z_l17, z_l18, z_l19, z_l20, z_l21, z_l22, z_l23, z_l24, z_l25, z_l26, z_l27, z_l28, z_l32, z_l48, z_l56, z_l57, z_l59, z_l63, z_l64, z_l96, z_l97, z_l122, z_l127, z_l152, z_l158, z_l182, z_l255, z_l256, z_l310, z_l342, z_l406, z_l440, z_l729, z_l800, z_l3960, z_l14336, z_l14592, z_l100000, h1, h3]
  · have h1 : f_X7_hasLane (v.2.2 0 w) (nI t) = some (nI 0) := x_hl0 h64 (by rw [a1, hv]; rfl)
    have h3 : f_X7_hasLane (v.2.2 1 w) (nI t) = some (nI 0) := x_hl0 h64 (by rw [a2, hv]; rfl)
    rw [hv]
    simp (disch := omega) only [z_gt, z_o1, z_o2, z_o3, z_o4, z_o5, z_o6, z_o7, z_o8, z_o9, z_bn, z_jn, nI_add, z_mul, z_sub, z_div, Nat.not_lt_zero, z_cl, z_le, z_lt, z_eq, z_inb, z_nz, z_isB0, z_notJ, z_notI, z_isB1, z_m1, z_pos, z_pos', z_nlt, z_nle', z_m1le, z_m1a, z_nle, z_sI0, z_sI1, z_sI2, z_sI3, z_sJ0, z_sJ1, z_sJ2, z_sJ3, z_sF0, z_sF1, z_sF2, z_sA0, z_sA1, z_sA2, z_sA3, z_sAA, z_sIA, ↓reduceIte, Nat.reduceEqDiff, Nat.reduceLeDiff, Nat.reduceLT, z_l0, z_l1, z_l2, z_l3, z_l4, z_l5, z_l6, z_l7, z_l8, z_l9, z_l10, z_l11, z_l12, z_l13, z_l14, z_l15, z_l16, z_l17, z_l18, z_l19, z_l20, z_l21, z_l22, z_l23, z_l24, z_l25, z_l26, z_l27, z_l28, z_l32, z_l48, z_l56, z_l57, z_l59, z_l63, z_l64, z_l96, z_l97, z_l122, z_l127, z_l152, z_l158, z_l182, z_l255, z_l256, z_l310, z_l342, z_l406, z_l440, z_l729, z_l800, z_l3960, z_l14336, z_l14592, z_l100000, h1, h3]
