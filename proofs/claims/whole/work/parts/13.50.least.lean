/-! the class's least set -/
/-- the tests of S find all that M holds; D t f: test t finds f -/
def CVm (D : Nat → Nat → Bool) (M : Nat → Bool) (S : Nat) : Prop := ∀ f, f < 64 → M f = true → ∃ t, S.testBit t = true ∧ D t f = true
theorem pc_add {S j : Nat} (h : S < 2 ^ j) (hj : j < 16) : pc (2 ^ j + S) = pc S + 1 ∧ ∀ i, (2 ^ j + S).testBit i = (S.testBit i || decide (i = j)) := by
  have hb : ∀ i, (2 ^ j + S).testBit i = (S.testBit i || decide (i = j)) := fun i => by
    have h3 := Nat.testBit_two_pow_mul_add 1 (b := S) (i := j) h i
    rw [Nat.mul_one] at h3
    rw [h3]
    by_cases h2 : i < j
    · rw [if_pos h2]
      have : ¬ i = j := by omega
      simp [this]
    · rw [if_neg h2]
      have hz : S.testBit i = false := Nat.testBit_lt_two_pow (Nat.lt_of_lt_of_le h (Nat.pow_le_pow_right (by omega) (by omega)))
      by_cases e : i = j
      · subst e
        simp
      · have h9 : Nat.testBit 1 (i - j) = false := by
          obtain ⟨k, hk⟩ : ∃ k, i - j = k + 1 := ⟨i - j - 1, by omega⟩
          rw [hk, Nat.testBit_succ]
          exact Nat.zero_testBit k
        rw [h9, hz]
        simp [e]
  refine ⟨?_, hb⟩
  unfold pc
  have e1 : cnt (fun i => (2 ^ j + S).testBit i) 16 = cnt (fun i => S.testBit i || decide (i = j)) 16 := cnt_cong _ (fun i _ => hb i)
  have hzj : S.testBit j = false := Nat.testBit_lt_two_pow h
  have e2 := cnt_or (p := fun i => S.testBit i) (q := fun i => decide (i = j)) 16 (fun k _ => by
    rintro ⟨a, b⟩
    have : k = j := by simpa using b
    rw [this, hzj] at a
    cases a)
  have e3 : cnt (fun i => decide (i = j)) 16 = 1 := by
    have hd : ∀ j, j < 16 → cnt (fun i => decide (i = j)) 16 = 1 := by decide
    exact hd j hj
  omega
theorem pc_0 : pc 0 = 0 := cnt_zero _ (fun k _ => Nat.zero_testBit k)
theorem pc_pos {S : Nat} (h : S < 65536) (h0 : S ≠ 0) : 1 ≤ pc S := by
  have := and_pred 16 S (by omega) (by omega)
  unfold pc
  omega
theorem split_top {S j : Nat} (h : S < 2 ^ (j + 1)) (h2 : ¬ S < 2 ^ j) : ∃ S', S' < 2 ^ j ∧ S = 2 ^ j + S' := ⟨S - 2 ^ j, by rw [Nat.pow_succ] at h; omega, by omega⟩
/-- what a search answers: the least set below 2 ^ k of at most b tests that finds all of M, or none -/
def SR (D : Nat → Nat → Bool) (k b : Nat) (M : Nat → Bool) (x : Int32) : Prop :=
  (∃ S, S < 2 ^ k ∧ x = nI S ∧ pc S ≤ b ∧ CVm D M S ∧ ∀ S', S' < S → pc S' ≤ b → ¬ CVm D M S') ∨ (x = im1 ∧ ∀ S, S < 2 ^ k → pc S ≤ b → ¬ CVm D M S)
theorem x_cover {vF : Vs} {D : Nat → Nat → Bool} {N : Nat} (hN : N ≤ 16) (hD : ∀ t f, t < N → f < 64 → bJ (vF.2.2 9 t) f = D t f) (hU : ∀ t f, t < N → f < 64 → (bJ (vF.2.2 10 t) f = true ↔ ∃ u, u ≤ t ∧ D u f = true)) :
    ∀ k, k ≤ N → ∀ (n : Nat) (b : Nat) (y : Int64), k < n → b ≤ 100 → Ok (lp f_X7_smallestCover_B (fun _ _ _ _ => none) n vF (if k = 0 then im1 else nI (k - 1)) y (nI b)) (SR D k b (fun f => bJ y f)) := by
  intro k
  induction k with
  | zero =>
    intro _ n b y hn hb
    obtain ⟨n, rfl⟩ : ∃ m, n = m + 1 := ⟨n - 1, by omega⟩
    show Ok (f_X7_smallestCover_B _ vF _ y (nI b)) _
    unfold f_X7_smallestCover_B
    by_cases h0 : y = 0
    · rw [if_pos ((lg_cmp_eq _ _).mpr h0)]
      refine ok_some (Or.inl ⟨0, by decide, rfl, by rw [pc_0]; omega, fun f hf hm => ?_, fun S' h => by omega⟩)
      dsimp only at hm
      rw [h0, bJ_0] at hm
      cases hm
    · rw [if_neg (fun z => h0 ((lg_cmp_eq _ _).mp z)), z_jn, if_pos rfl]
      have c : im1 < 0 := by decide
      rw [if_pos c]
      refine ok_some (Or.inr ⟨rfl, fun S hS _ hC => h0 ?_⟩)
      have hS0 : S = 0 := by
        rw [Nat.pow_zero] at hS
        omega
      rw [bJ_ne0]
      intro f hf
      cases hq : bJ y f with
      | false => rfl
      | true =>
        obtain ⟨t, ht, -⟩ := hC f hf hq
        rw [hS0, Nat.zero_testBit] at ht
        cases ht
  | succ k ih =>
    intro hk n b y hn hb
    obtain ⟨n, rfl⟩ : ∃ m, n = m + 1 := ⟨n - 1, by omega⟩
    have h2k : 2 ^ k ≤ 32768 := show 2 ^ k ≤ 2 ^ 15 from Nat.pow_le_pow_right (by omega) (by omega)
    have h2s : 2 ^ (k + 1) = 2 ^ k * 2 := Nat.pow_succ 2 k
    show Ok (f_X7_smallestCover_B (lp f_X7_smallestCover_B (fun _ _ _ _ => none) n) vF _ y (nI b)) _
    rw [if_neg (by omega), show k + 1 - 1 = k by omega]
    unfold f_X7_smallestCover_B
    by_cases h0 : y = 0
    · rw [if_pos ((lg_cmp_eq _ _).mpr h0)]
      refine ok_some (Or.inl ⟨0, Nat.two_pow_pos _, rfl, by rw [pc_0]; omega, fun f hf hm => ?_, fun S' h => by omega⟩)
      dsimp only at hm
      rw [h0, bJ_0] at hm
      cases hm
    · rw [if_neg (fun z => h0 ((lg_cmp_eq _ _).mp z)), z_jn, if_neg (pos_n (by omega)), z_l16, iff_ (by omega) (by omega)]
      have hex : ∃ f, f < 64 ∧ bJ y f = true := by
        refine Classical.byContradiction (fun hno => h0 ?_)
        rw [bJ_ne0]
        intro l hl
        cases hb2 : bJ y l with
        | false => rfl
        | true => exact absurd ⟨l, hl, hb2⟩ hno
      have no0 : ∀ S, S = 0 → ¬ CVm D (fun f => bJ y f) S := fun S e hC => by
        obtain ⟨f, hf, hq⟩ := hex
        obtain ⟨t, ht, -⟩ := hC f hf hq
        rw [e, Nat.zero_testBit] at ht
        cases ht
      by_cases hb0 : b ≤ 0
      · have c : nI b ≤ nI 0 := nI_le hb0 (by omega)
        have c : nI b ≤ 0 := c
        rw [if_pos c]
        refine ok_some (Or.inr ⟨rfl, fun S hS hp => no0 S ?_⟩)
        refine Classical.byContradiction (fun q => ?_)
        have := pc_pos (S := S) (by omega) q
        omega
      · have c : ¬ nI b ≤ 0 := nI_nle (by omega) (by omega)
        rw [if_neg c]
        refine ok_gd (z_inb (by omega) (by omega)) ?_
        rw [z_cl (by omega), show (vF.2.2 10 k ^^^ (-1 : Int64)) = ~~~(vF.2.2 10 k) from z_notJ _]
        by_cases hup : y &&& ~~~(vF.2.2 10 k) = 0
        · rw [if_pos ((lg_cmp_eq _ _).mpr hup)]
          have et : nI k - (1 : Int32) = if k = 0 then im1 else nI (k - 1) := by
            by_cases e : k = 0
            · rw [if_pos e, e]
              rfl
            · rw [if_neg e, z_l1, z_sub (by omega)]
          rw [et]
          refine ok_o1 (ih (by omega) n b y (by omega) hb) ?_
          intro x hx
          rw [z_jn]
          rcases hx with ⟨S, s1, rfl, s2, s3, s4⟩ | ⟨rfl, s1⟩
          · rw [if_pos (nI_pos' (by omega))]
            exact ok_some (Or.inl ⟨S, by omega, rfl, s2, s3, s4⟩)
          · have c9 : ¬ (0 ≤ im1) := by decide
            rw [if_neg c9]
            refine ok_gd (z_inb (by omega) (by omega)) ?_
            by_cases hfd : y &&& vF.2.2 9 k = 0
            · rw [if_pos ((lg_cmp_eq _ _).mpr hfd)]
              refine ok_some (Or.inr ⟨rfl, fun S hS hp hC => ?_⟩)
              by_cases hlt : S < 2 ^ k
              · exact s1 S hlt hp hC
              · obtain ⟨S', h1, rfl⟩ := split_top hS hlt
                obtain ⟨p1, p2⟩ := pc_add h1 (by omega)
                refine s1 S' h1 (by omega) (fun f hf hm => ?_)
                obtain ⟨t, ht, hDt⟩ := hC f hf hm
                rw [p2] at ht
                by_cases e : t = k
                · subst e
                  have := congrArg (fun z => bJ z f) hfd
                  rw [bJ_and, bJ_0, hD t f (by omega) hf, hDt, Bool.and_true] at this
                  have hm' : bJ y f = true := hm
                  rw [hm'] at this
                  cases this
                · simp [e] at ht
                  exact ⟨t, ht, hDt⟩
            · rw [if_neg (fun z => hfd ((lg_cmp_eq _ _).mp z))]
              refine ok_gd (z_inb (by omega) (by omega)) ?_
              rw [show (vF.2.2 9 k ^^^ (-1 : Int64)) = ~~~(vF.2.2 9 k) from z_notJ _]
              have eb : nI b - (1 : Int32) = nI (b - 1) := by rw [z_l1, z_sub (by omega)]
              rw [eb]
              have hbit : ∀ f, f < 64 → bJ (y &&& ~~~(vF.2.2 9 k)) f = (bJ y f && !D k f) := fun f hf => by rw [bJ_and, bJ_not _ hf, hD k f (by omega) hf]
              refine ok_o1 (ih (by omega) n (b - 1) (y &&& ~~~(vF.2.2 9 k)) (by omega) (by omega)) ?_
              intro x hx
              rw [z_jn]
              -- a set with the top test, and one without it
              have down : ∀ S', S' < 2 ^ k → CVm D (fun f => bJ y f) (2 ^ k + S') → CVm D (fun f => bJ (y &&& ~~~(vF.2.2 9 k)) f) S' := fun S' h1 hC f hf hm => by
                dsimp only at hm
                rw [hbit f hf] at hm
                simp at hm
                obtain ⟨t, ht, hDt⟩ := hC f hf hm.1
                rw [(pc_add h1 (by omega)).2] at ht
                by_cases e : t = k
                · rw [e, hm.2] at hDt
                  cases hDt
                · simp [e] at ht
                  exact ⟨t, ht, hDt⟩
              have up : ∀ S', S' < 2 ^ k → CVm D (fun f => bJ (y &&& ~~~(vF.2.2 9 k)) f) S' → CVm D (fun f => bJ y f) (2 ^ k + S') := fun S' h1 hC f hf hm => by
                have hb2 := (pc_add h1 (by omega)).2
                cases hq : D k f with
                | true => exact ⟨k, by rw [hb2]; simp, hq⟩
                | false =>
                  obtain ⟨t, ht, hDt⟩ := hC f hf (by
                    dsimp only at hm ⊢
                    rw [hbit f hf, hm, hq]
                    rfl)
                  exact ⟨t, by rw [hb2, ht]; rfl, hDt⟩
              rcases hx with ⟨S, t1, rfl, t2, t3, t4⟩ | ⟨rfl, t1⟩
              · rw [if_pos (nI_pos' (by omega)), z_l1, g_shl k (by omega), g_or2 t1]
                obtain ⟨p1, p2⟩ := pc_add t1 (by omega)
                refine ok_some (Or.inl ⟨2 ^ k + S, by omega, by rw [Nat.add_comm], by omega, up S t1 t3, fun S' hS' hp hC => ?_⟩)
                by_cases hlt : S' < 2 ^ k
                · exact s1 S' hlt hp hC
                · obtain ⟨S2, h1, rfl⟩ := split_top (S := S') (j := k) (by omega) hlt
                  obtain ⟨p3, p4⟩ := pc_add h1 (by omega)
                  exact t4 S2 (by omega) (by omega) (down S2 h1 hC)
              · rw [if_neg c9]
                refine ok_some (Or.inr ⟨rfl, fun S hS hp hC => ?_⟩)
                by_cases hlt : S < 2 ^ k
                · exact s1 S hlt hp hC
                · obtain ⟨S2, h1, rfl⟩ := split_top hS hlt
                  obtain ⟨p3, p4⟩ := pc_add h1 (by omega)
                  exact t1 S2 h1 (by omega) (down S2 h1 hC)
        · rw [if_neg (fun z => hup ((lg_cmp_eq _ _).mp z))]
          refine ok_some (Or.inr ⟨rfl, fun S hS hp hC => hup ?_⟩)
          rw [bJ_ne0]
          intro f hf
          rw [bJ_and, bJ_not _ hf]
          cases hq : bJ y f with
          | false => rfl
          | true =>
            obtain ⟨t, ht, hDt⟩ := hC f hf hq
            have htk : t ≤ k := by
              refine Classical.byContradiction (fun z => ?_)
              have := Nat.testBit_lt_two_pow (x := S) (i := t) (Nat.lt_of_lt_of_le hS (Nat.pow_le_pow_right (by omega) (by omega)))
              rw [this] at ht
              cases ht
            rw [(hU k f (by omega) hf).mpr ⟨t, htk, hDt⟩]
            rfl
