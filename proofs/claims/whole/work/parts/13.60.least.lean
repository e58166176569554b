/-! both find the same least set -/
theorem full_cv {r : Nat → Int32} (ht : WFt r) : CV r (2 ^ NT r - 1) = true := by
  unfold CV
  rw [decide_eq_true_iff]
  intro f hf
  have h := fbN_lt r f (NT r)
  rw [Nat.and_two_pow_sub_one_of_lt_two_pow h]
  by_cases q : fbN r f (NT r) = 0
  · exact Or.inl q
  · exact Or.inr q
theorem pc_lt_full {n S : Nat} (hn : n ≤ 16) (h : S < 2 ^ n) (hne : S ≠ 2 ^ n - 1) : pc S < pc (2 ^ n - 1) := by
  have hb : ∀ i, (2 ^ n - 1).testBit i = decide (i < n) := fun i => Nat.testBit_two_pow_sub_one n i
  have hz : ∀ i, n ≤ i → S.testBit i = false := fun i hi => Nat.testBit_lt_two_pow (Nat.lt_of_lt_of_le h (Nat.pow_le_pow_right (by omega) hi))
  have hex : ∃ j, j < n ∧ S.testBit j = false := by
    refine Classical.byContradiction (fun hno => hne (Nat.eq_of_testBit_eq (fun i => ?_)))
    rw [hb]
    by_cases hi : i < n
    · cases hq : S.testBit i with
      | true => simp [hi]
      | false => exact absurd ⟨i, hi, hq⟩ hno
    · rw [hz i (by omega)]
      simp [hi]
  obtain ⟨j, hj, hjf⟩ := hex
  have e1 : pc S = cnt (fun i => S.testBit i) n := cnt_cut 16 hn (fun k h1 _ => hz k h1)
  have e2 : pc (2 ^ n - 1) = cnt (fun i => (2 ^ n - 1).testBit i) n := cnt_cut 16 hn (fun k h1 _ => by rw [hb]; simp; omega)
  have e3 : cnt (fun i => (2 ^ n - 1).testBit i) n = cnt (fun i => S.testBit i || !S.testBit i) n := cnt_cong _ (fun k hk => by rw [hb]; cases S.testBit k <;> simp [hk])
  have e4 := cnt_or (p := fun i => S.testBit i) (q := fun i => !S.testBit i) n (fun k _ => by
    rintro ⟨a, b⟩
    rw [a] at b
    cases b)
  have e5 := cnt_up (p := fun i => !S.testBit i) (i := j) (n := n) hj (by rw [hjf]; rfl)
  omega
theorem bestS_is {r : Nat → Int32} (ht : WFt r) : ∀ n, n ≤ 2 ^ NT r → CV r (bestS r n) = true ∧ (∀ S, S < n → CV r S = true → pc (bestS r n) ≤ pc S ∧ (pc S = pc (bestS r n) → bestS r n ≤ S))
  | 0, _ => ⟨full_cv ht, fun S h => by omega⟩
  | n + 1, h => by
    obtain ⟨a, b⟩ := bestS_is ht n (by omega)
    have e : bestS r (n + 1) = if pc n < pc (bestS r n) ∧ CV r n = true then n else bestS r n := rfl
    by_cases c : pc n < pc (bestS r n) ∧ CV r n = true
    · rw [e, if_pos c]
      refine ⟨c.2, fun S hS hC => ?_⟩
      by_cases q : S = n
      · rw [q]
        exact ⟨Nat.le_refl _, fun _ => Nat.le_refl _⟩
      · obtain ⟨b1, b2⟩ := b S (by omega) hC
        exact ⟨by omega, fun z => by omega⟩
    · rw [e, if_neg c]
      refine ⟨a, fun S hS hC => ?_⟩
      by_cases q : S = n
      · subst q
        have hle : pc (bestS r S) ≤ pc S := by
          refine Classical.byContradiction (fun z => c ⟨by omega, hC⟩)
        refine ⟨hle, fun z => ?_⟩
        -- the same size: either the best is below, or it is the full set
        refine Classical.byContradiction (fun hgt => ?_)
        have hbl := bestS_lt ht S (by omega)
        have hfull : bestS r S = 2 ^ NT r - 1 := by
          have hor : ∀ m, m ≤ S → bestS r m = 2 ^ NT r - 1 ∨ bestS r m < m := by
            intro m
            induction m with
            | zero => intro _; exact Or.inl rfl
            | succ m ihm =>
              intro hm
              have em : bestS r (m + 1) = if pc m < pc (bestS r m) ∧ CV r m = true then m else bestS r m := rfl
              rw [em]
              by_cases cm : pc m < pc (bestS r m) ∧ CV r m = true
              · rw [if_pos cm]
                exact Or.inr (by omega)
              · rw [if_neg cm]
                rcases ihm (by omega) with w | w
                · exact Or.inl w
                · exact Or.inr (by omega)
          rcases hor S (Nat.le_refl _) with w | w
          · exact w
          · omega
        have := pc_lt_full ht.1.2 (S := S) (by omega) (by omega)
        rw [← hfull] at this
        omega
      · exact b S (by omega) hC
theorem q_leastSet {r : Nat → Int32} (hw : WFc r) (ht : WFt r) {vF vC vT vRT vG vB vRF vM : Vs} {n : Nat} (hC : RC r vC) (hT : RT r vT) (hF : FI r vF vRT vG vRF) (hM : MS vM n r) :
    ∃ x vF' vRT' vG' vB' vM', f_X7_leastSet vF vC vT 342 vRT vG vB = some (x, vF', vRT', vG', vB') ∧ FI r vF' vRT' vG' vRF ∧ f_X8_leastSet vM = some (x, vM') ∧ QM vM vM' := by
  have hn := hw.nf
  have h16 := ht.1.2
  have hp := pow16 ht
  obtain ⟨vM', eM, hQ⟩ := h_leastSet hM hw ht
  obtain ⟨all, vF1, vRT', vG', vB', e, hF', hTR, hb, ha, k1, k2, k3, k4⟩ := y_foundTests hw ht (vB := vB) hC hT hF
  obtain ⟨bc, bm⟩ := bestS_is ht (2 ^ NT r) (Nat.le_refl _)
  have blt := bestS_lt ht (2 ^ NT r) (Nat.le_refl _)
  -- what a set must find
  have hcv : ∀ S, S < 2 ^ NT r → (CVm (fun t f => decide (f < NF r) && FD r t f) (fun f => bJ all f) S ↔ CV r S = true) := by
    intro S hS
    unfold CV
    rw [decide_eq_true_iff]
    have hand : ∀ f, ¬ (fbN r f (NT r) &&& S = 0) ↔ ∃ t, t < NT r ∧ FD r t f = true ∧ S.testBit t = true := fun f => by
      constructor
      · intro h
        obtain ⟨t, q⟩ := Nat.exists_testBit_of_ne_zero h
        rw [Nat.testBit_and, fbN_bit] at q
        simp at q
        exact ⟨t, q.1.1, q.1.2, q.2⟩
      · rintro ⟨t, q1, q2, q3⟩ z
        have := congrArg (fun x => x.testBit t) z
        rw [Nat.testBit_and, fbN_bit, Nat.zero_testBit, q2, q3] at this
        simp at this
        omega
    constructor
    · intro h f hf
      by_cases z : fbN r f (NT r) = 0
      · exact Or.inl z
      · obtain ⟨t, q1, q2⟩ := (fbN_0 r f (NT r)).mp z
        obtain ⟨u, u1, u2⟩ := h f (by omega) ((ha f (by omega)).mpr ⟨t, q1, hf, q2⟩)
        simp at u2
        have hu : u < NT r := by
          refine Classical.byContradiction (fun z => ?_)
          have := Nat.testBit_lt_two_pow (x := S) (i := u) (Nat.lt_of_lt_of_le hS (Nat.pow_le_pow_right (by omega) (by omega)))
          rw [this] at u1
          cases u1
        exact Or.inr ((hand f).mpr ⟨u, hu, u2.2, u1⟩)
    · intro h f hf hm
      obtain ⟨t, q1, q2, q3⟩ := (ha f hf).mp hm
      rcases h f q2 with z | z
      · exact absurd z ((fbN_0 r f (NT r)).mpr ⟨t, q1, q3⟩)
      · obtain ⟨u, u1, u2, u3⟩ := (hand f).mp z
        exact ⟨u, u3, by simp [q2, u2]⟩
  have key : Ok (f_X7_leastSet vF vC vT 342 vRT vG vB) (fun q => ∃ v, q = (nI (bestS r (2 ^ NT r)), v, vRT', vG', vB') ∧ FJ 10 vF1 v) := by
    unfold f_X7_leastSet
    rw [e, z_o5]
    refine zl3 (I := fun m y x v => ∃ t, x = nI t ∧ t ≤ NT r ∧ m = NT r - t ∧ FJ 10 vF1 v ∧ (∀ f, f < 64 → (bJ y f = true ↔ ∃ u, u < t ∧ (decide (f < NF r) && FD r u f) = true)) ∧ ∀ j f, j < t → f < 64 → (bJ (v.2.2 10 j) f = true ↔ ∃ u, u ≤ j ∧ (decide (f < NF r) && FD r u f) = true)) ?_ FU (NT r) _ _ _ (by unfold FU; omega) ⟨0, rfl, by omega, by omega, FJ.rf _ _, fun f hf => ?_, fun j f hj => by omega⟩
    · rintro m y x v self ⟨t, rfl, hle, rfl, hJ, hy, hu⟩ ih
      unfold f_X7_leastSet_L22
      rw [hT.1]
      have h9 : v.2.2 9 = vF1.2.2 9 := hJ.2.2 9 (by decide)
      by_cases hb0 : NT r ≤ t
      · rw [ift hb0 (by omega)]
        have et : t = NT r := by omega
        subst et
        clear ih
        have hcov := x_cover (vF := v) (D := fun t f => decide (f < NF r) && FD r t f) (N := NT r) h16 (fun t f h1 h2 => by rw [h9]; exact hb t f h1 h2) (fun t f h1 h2 => hu t f h1 h2) (NT r) (Nat.le_refl _)
        refine zl1 (I := fun m x => ∃ b, x = nI b ∧ b ≤ pc (bestS r (2 ^ NT r)) ∧ m = pc (bestS r (2 ^ NT r)) - b) ?_ FU (pc (bestS r (2 ^ NT r))) _ (by have := cnt_le (fun i => (bestS r (2 ^ NT r)).testBit i) 16; unfold FU pc; omega) ⟨0, rfl, by omega, by omega⟩
        rintro m x self ⟨b, rfl, hbl, rfl⟩ ih
        have hpcb : pc (bestS r (2 ^ NT r)) ≤ NT r := by
          have : pc (bestS r (2 ^ NT r)) = cnt (fun i => (bestS r (2 ^ NT r)).testBit i) (NT r) := cnt_cut 16 h16 (fun k h1 _ => Nat.testBit_lt_two_pow (Nat.lt_of_lt_of_le blt (Nat.pow_le_pow_right (by omega) h1)))
          rw [this]
          exact cnt_le _ _
        unfold f_X7_leastSet_L58
        rw [hT.1, ilf (by omega) (by omega)]
        have et : nI (NT r) - (1 : Int32) = if NT r = 0 then im1 else nI (NT r - 1) := by
          by_cases e : NT r = 0
          · rw [if_pos e, e]
            rfl
          · rw [if_neg e, z_l1, z_sub (by omega)]
        rw [et]
        refine ok_o1 (hcov 20 b all (by omega) (by omega)) ?_
        intro x hx
        rcases hx with ⟨S, s1, rfl, s2, s3, s4⟩ | ⟨rfl, s1⟩
        · rw [if_neg (pos_n (by omega))]
          have hCS := (hcv S s1).mp s3
          obtain ⟨m1, m2⟩ := bm S s1 hCS
          have hSB : S = bestS r (2 ^ NT r) := by
            have h1 := m2 (by omega)
            refine Classical.byContradiction (fun q => ?_)
            exact s4 (bestS r (2 ^ NT r)) (by omega) (by omega) ((hcv _ blt).mpr bc)
          rw [hSB]
          exact ok_some ⟨v, rfl, hJ⟩
        · have c9 : im1 < 0 := by decide
          rw [if_pos c9, z_l1, nI_add]
          have hne : b ≠ pc (bestS r (2 ^ NT r)) := fun q => s1 _ blt (by omega) ((hcv _ blt).mpr bc)
          exact ih _ _ (by omega) ⟨b + 1, rfl, by omega, rfl⟩
      · rw [iff_ hb0 (by omega)]
        refine ok_gd (z_inb (by omega) (by omega)) ?_
        refine ok_gd (z_inb (by omega) (by omega)) ?_
        refine ok_bn ?_
        rw [z_cl (by omega), z_l1, nI_add]
        have hbit : ∀ f, f < 64 → (bJ (y ||| v.2.2 9 t) f = true ↔ ∃ u, u < t + 1 ∧ (decide (f < NF r) && FD r u f) = true) := fun f hf => by
          rw [bJ_or, Bool.or_eq_true, hy f hf, h9, hb t f (by omega) hf]
          constructor
          · rintro (⟨u, a1, a2⟩ | a)
            · exact ⟨u, by omega, a2⟩
            · exact ⟨t, by omega, a⟩
          · rintro ⟨u, a1, a2⟩
            by_cases q : u = t
            · rw [q] at a2; exact Or.inr a2
            · exact Or.inl ⟨u, by omega, a2⟩
        refine ih _ _ _ _ (by omega) ⟨t + 1, rfl, by omega, rfl, hJ.set _ _, hbit, fun j f hj hf => ?_⟩
        rw [z_sJ2]
        by_cases q : j = t
        · subst q
          rw [z_v1 _ _ rfl, hbit f hf]
          constructor
          · rintro ⟨u, a1, a2⟩; exact ⟨u, by omega, a2⟩
          · rintro ⟨u, a1, a2⟩; exact ⟨u, by omega, a2⟩
        · rw [z_v2 _ _ q]
          exact hu j f (by omega) hf
    · rw [bJ_0]
      constructor
      · intro h; cases h
      · rintro ⟨u, hu, _⟩; omega
  obtain ⟨q, eX, v, rfl, hJ⟩ := key
  refine ⟨nI (bestS r (2 ^ NT r)), v, vRT', vG', vB', vM', eX, ⟨fun q => hF'.1 ?_, fun q => hF'.2.1 ?_, hF'.2.2.1, hF'.2.2.2.1, fun j hj => ?_⟩, eM, hQ⟩
  · rw [← hJ.1]; exact q
  · rw [← hJ.1]; exact q
  · rw [hJ.2.1]
    exact hF'.2.2.2.2 j hj
