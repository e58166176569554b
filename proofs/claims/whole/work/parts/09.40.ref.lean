/-! the reference: questions, what is found -/
theorem g_asksTest {v : Vs} {n : Nat} {r : Nat → Int32} (h : MS v n r) (hw : WFc r) (ht : WFt r) {t : Nat} (h1 : t < NT r) : ∃ f g, f_X8_asksTest v (nI t) = some (sA (sA v 6 f) 7 g) ∧ (∀ i, i < NI r → f i = nI (tv r t i) ∧ tv r t i ≤ 2) ∧ ∀ w, w < NW r → g w = nI (good r (tv r t) w) := by
  have hn := hw.nf
  have h16 := ht.1.2
  have key : Ok (f_X8_asksTest v (nI t)) (fun v' => ∃ f g, v' = sA (sA v 6 f) 7 g ∧ (∀ i, i < NI r → f i = nI (tv r t i) ∧ tv r t i ≤ 2) ∧ ∀ w, w < NW r → g w = nI (good r (tv r t) w)) := by
    unfold f_X8_asksTest
    refine zl2 (I := fun m x v' => ∃ i f, x = nI i ∧ v' = sA v 6 f ∧ i ≤ NI r ∧ m = NI r - i ∧ ∀ j, j < i → f j = nI (tv r t j)) ?_ FU (NI r) _ _ (by unfold FU; omega) ⟨0, v.2.1 6, rfl, (z_sAs v 6).symm, by omega, by omega, fun j hj => by omega⟩
    rintro m x v' self ⟨i, f, rfl, rfl, hle, rfl, hf⟩ ih
    have hm := h.sA 6 f (by decide)
    unfold f_X8_asksTest_L2
    refine ok_o1e (g_inputs hm hw) ?_
    by_cases hb : NI r ≤ i
    · rw [ift hb (by omega)]
      have hf2 : ∀ j, j < NI r → f j = nI (tv r t j) ∧ tv r t j ≤ 2 := fun j hj => ⟨hf j (by omega), (ht.2.1 t j h1 hj).2⟩
      obtain ⟨g, e, hg⟩ := g_cleans hm hw (ask := tv r t) (fun j hj => by rw [z_sA2]; exact hf2 j hj)
      refine ok_o1e e ?_
      exact ok_some ⟨f, g, rfl, hf2, hg⟩
    · rw [iff_ hb (by omega)]
      obtain ⟨a1, a2⟩ := ht.2.1 t i h1 (by omega)
      rw [z_l182, z_l8, z_mul, nI_add, nI_add]
      refine ok_o1e ((g_get hm (by omega)).trans (congrArg some a1)) ?_
      refine ok_gd (z_inb (by omega) (by omega)) ?_
      refine ok_bn ?_
      rw [z_sIA, z_sAA, z_sA2, z_cl (by omega), z_l1, nI_add]
      refine ih _ _ _ (by omega) ⟨i + 1, _, rfl, rfl, by omega, rfl, fun j hj => ?_⟩
      by_cases hj2 : j = i
      · rw [z_u1 _ _ hj2, hj2]
      · rw [z_u2 _ _ hj2]
        exact hf j (by omega)
  obtain ⟨v', e, f, g, rfl, hf, hg⟩ := key
  exact ⟨f, g, e, hf, hg⟩
def fq (N i : Nat) : Nat := N / 2 ^ i % 2
theorem fq_1 (N i : Nat) : fq N i ≤ 1 := by unfold fq; omega
theorem g_fq : ∀ N, N < 256 → ∀ i, i < 8 → ((nI N >>> (nI i &&& 31)) &&& nI 1) = nI (fq N i) := by decide +kernel
theorem g_asksFull {v : Vs} {n : Nat} {r : Nat → Int32} (h : MS v n r) (hw : WFc r) {N : Nat} (h1 : N < 256) : ∃ f g, f_X8_asksFull v (nI N) = some (sA (sA v 6 f) 7 g) ∧ (∀ i, i < NI r → f i = nI (fq N i) ∧ fq N i ≤ 2) ∧ ∀ w, w < NW r → g w = nI (good r (fq N) w) := by
  have hn := hw.nf
  have key : Ok (f_X8_asksFull v (nI N)) (fun v' => ∃ f g, v' = sA (sA v 6 f) 7 g ∧ (∀ i, i < NI r → f i = nI (fq N i) ∧ fq N i ≤ 2) ∧ ∀ w, w < NW r → g w = nI (good r (fq N) w)) := by
    unfold f_X8_asksFull
    refine zl2 (I := fun m x v' => ∃ i f, x = nI i ∧ v' = sA v 6 f ∧ i ≤ NI r ∧ m = NI r - i ∧ ∀ j, j < i → f j = nI (fq N j)) ?_ FU (NI r) _ _ (by unfold FU; omega) ⟨0, v.2.1 6, rfl, (z_sAs v 6).symm, by omega, by omega, fun j hj => by omega⟩
    rintro m x v' self ⟨i, f, rfl, rfl, hle, rfl, hf⟩ ih
    have hm := h.sA 6 f (by decide)
    unfold f_X8_asksFull_L2
    refine ok_o1e (g_inputs hm hw) ?_
    by_cases hb : NI r ≤ i
    · rw [ift hb (by omega)]
      have hf2 : ∀ j, j < NI r → f j = nI (fq N j) ∧ fq N j ≤ 2 := fun j hj => ⟨hf j (by omega), by have := fq_1 N j; omega⟩
      obtain ⟨g, e, hg⟩ := g_cleans hm hw (ask := fq N) (fun j hj => by rw [z_sA2]; exact hf2 j hj)
      refine ok_o1e e ?_
      exact ok_some ⟨f, g, rfl, hf2, hg⟩
    · rw [iff_ hb (by omega)]
      refine ok_gd (z_inb (by omega) (by omega)) ?_
      refine ok_bn ?_
      rw [z_sIA, z_sAA, z_sA2, z_cl (by omega), z_l1, g_fq N h1 i (by omega), nI_add]
      refine ih _ _ _ (by omega) ⟨i + 1, _, rfl, rfl, by omega, rfl, fun j hj => ?_⟩
      by_cases hj2 : j = i
      · rw [z_u1 _ _ hj2, hj2]
      · rw [z_u2 _ _ hj2]
        exact hf j (by omega)
  obtain ⟨v', e, f, g, rfl, hf, hg⟩ := key
  exact ⟨f, g, e, hf, hg⟩
theorem g_atClean {v : Vs} {n : Nat} {r : Nat → Int32} (h : MS v n r) (hw : WFc r) {o : Nat} (h1 : o < NO r) : f_X8_atOutput_clean v (nI o) = some (v.2.1 7 (ou r o)) ∧ ou r o < NW r := by
  have hn := hw.nf
  obtain ⟨a1, a2⟩ := hw.2.2.2.2.2.2.2.1 o h1
  refine ⟨?_, a2⟩
  unfold f_X8_atOutput_clean
  rw [z_l152, nI_add, g_get h (by omega), a1, z_o1, z_inb (by omega) (by omega), z_gt, z_cl (by omega)]
theorem g_atBent {v : Vs} {n : Nat} {r : Nat → Int32} (h : MS v n r) (hw : WFc r) {o : Nat} (h1 : o < NO r) : f_X8_atOutput_bent v (nI o) = some (v.2.1 8 (ou r o)) ∧ ou r o < NW r := by
  have hn := hw.nf
  obtain ⟨a1, a2⟩ := hw.2.2.2.2.2.2.2.1 o h1
  refine ⟨?_, a2⟩
  unfold f_X8_atOutput_bent
  rw [z_l152, nI_add, g_get h (by omega), a1, z_o1, z_inb (by omega) (by omega), z_gt, z_cl (by omega)]
/-- the outputs' values as one number -/
def bitsN (f : Nat → Nat) : Nat → Nat
  | 0 => 0
  | n + 1 => bitsN f n + f n * 2 ^ n
theorem bitsN_lt {f : Nat → Nat} : ∀ n, (∀ j, j < n → f j ≤ 1) → bitsN f n < 2 ^ n
  | 0, _ => by simp [bitsN]
  | n + 1, h => by
    have h1 := bitsN_lt n (fun j hj => h j (by omega))
    have h2 := h n (by omega)
    have h3 : f n * 2 ^ n ≤ 1 * 2 ^ n := Nat.mul_le_mul_right _ h2
    have h4 : bitsN f (n + 1) = bitsN f n + f n * 2 ^ n := rfl
    rw [Nat.pow_succ]
    omega
theorem bitsN_inj {f g : Nat → Nat} : ∀ n, (∀ j, j < n → f j ≤ 1) → (∀ j, j < n → g j ≤ 1) → bitsN f n = bitsN g n → ∀ j, j < n → f j = g j
  | 0, _, _, _, j, hj => by omega
  | n + 1, hf, hg, he, j, hj => by
    have h1 := bitsN_lt n (fun j hj => hf j (by omega))
    have h2 := bitsN_lt n (fun j hj => hg j (by omega))
    have h3 : bitsN f (n + 1) = bitsN f n + f n * 2 ^ n := rfl
    have h4 : bitsN g (n + 1) = bitsN g n + g n * 2 ^ n := rfl
    have f1 := hf n (by omega)
    have g1 := hg n (by omega)
    have e1 : f n = 0 ∨ f n = 1 := by omega
    have e2 : g n = 0 ∨ g n = 1 := by omega
    have e3 : f n = g n ∧ bitsN f n = bitsN g n := by
      rw [h3, h4] at he
      rcases e1 with q | q <;> rcases e2 with q2 | q2 <;> rw [q, q2] at he ⊢ <;> omega
    rcases Nat.lt_or_ge j n with q | q
    · exact bitsN_inj n (fun j hj => hf j (by omega)) (fun j hj => hg j (by omega)) e3.2 j q
    · have : j = n := by omega
      rw [this]
      exact e3.1
theorem bitsN_cong {f g : Nat → Nat} : ∀ n, (∀ j, j < n → f j = g j) → bitsN f n = bitsN g n
  | 0, _ => rfl
  | n + 1, h => by
    show bitsN f n + f n * 2 ^ n = bitsN g n + g n * 2 ^ n
    rw [bitsN_cong n (fun j hj => h j (by omega)), h n (by omega)]
theorem g_orb : ∀ o, o < 6 → ∀ b, b < 2 ^ o → ∀ x, x < 2 → (nI b ||| (nI x <<< (nI o &&& 31))) = nI (b + x * 2 ^ o) := by decide +kernel
theorem g_bits_clean {v : Vs} {n : Nat} {r : Nat → Int32} (h : MS v n r) (hw : WFc r) {c : Nat → Nat} (hc : ∀ w, w < NW r → v.2.1 7 w = nI (c w) ∧ c w ≤ 1) : f_X8_bitsAt_clean v = some (nI (bitsN (fun o => c (ou r o)) (NO r))) := by
  have hn := hw.nf
  refine ok_get ?_
  unfold f_X8_bitsAt_clean
  refine zl2 (I := fun m x y => ∃ o, x = nI (bitsN (fun o => c (ou r o)) o) ∧ y = nI o ∧ o ≤ NO r ∧ m = NO r - o) ?_ FU (NO r) _ _ (by unfold FU; omega) ⟨0, rfl, rfl, by omega, by omega⟩
  rintro m x y self ⟨o, rfl, rfl, hle, rfl⟩ ih
  unfold f_X8_bitsAt_clean_L4
  refine ok_o1e (g_outputs h hw) ?_
  by_cases hb : NO r ≤ o
  · rw [ift hb (by omega)]
    have e : o = NO r := by omega
    rw [e]
    exact ok_some rfl
  · rw [iff_ hb (by omega)]
    obtain ⟨e1, e2⟩ := g_atClean h hw (o := o) (by omega)
    obtain ⟨c1, c2⟩ := hc _ e2
    refine ok_o1e (e1.trans (congrArg some c1)) ?_
    have hl := bitsN_lt (f := fun o => c (ou r o)) o (fun j hj => (hc _ (g_atClean h hw (o := j) (by omega)).2).2)
    rw [g_orb o (by omega) _ hl _ (by omega), z_l1, nI_add]
    exact ih _ _ _ (by omega) ⟨o + 1, rfl, rfl, by omega, rfl⟩
theorem g_bits_bent {v : Vs} {n : Nat} {r : Nat → Int32} (h : MS v n r) (hw : WFc r) {c : Nat → Nat} (hc : ∀ w, w < NW r → v.2.1 8 w = nI (c w) ∧ c w ≤ 1) : f_X8_bitsAt_bent v = some (nI (bitsN (fun o => c (ou r o)) (NO r))) := by
  have hn := hw.nf
  refine ok_get ?_
  unfold f_X8_bitsAt_bent
  refine zl2 (I := fun m x y => ∃ o, x = nI (bitsN (fun o => c (ou r o)) o) ∧ y = nI o ∧ o ≤ NO r ∧ m = NO r - o) ?_ FU (NO r) _ _ (by unfold FU; omega) ⟨0, rfl, rfl, by omega, by omega⟩
  rintro m x y self ⟨o, rfl, rfl, hle, rfl⟩ ih
  unfold f_X8_bitsAt_bent_L4
  refine ok_o1e (g_outputs h hw) ?_
  by_cases hb : NO r ≤ o
  · rw [ift hb (by omega)]
    have e : o = NO r := by omega
    rw [e]
    exact ok_some rfl
  · rw [iff_ hb (by omega)]
    obtain ⟨e1, e2⟩ := g_atBent h hw (o := o) (by omega)
    obtain ⟨c1, c2⟩ := hc _ e2
    refine ok_o1e (e1.trans (congrArg some c1)) ?_
    have hl := bitsN_lt (f := fun o => c (ou r o)) o (fun j hj => (hc _ (g_atBent h hw (o := j) (by omega)).2).2)
    rw [g_orb o (by omega) _ hl _ (by omega), z_l1, nI_add]
    exact ih _ _ _ (by omega) ⟨o + 1, rfl, rfl, by omega, rfl⟩
/-- one output more: 2 found, 1 perhaps -/
def fnd (a b best : Nat) : Nat := if a = 2 then best else if a = b then best else if b = 2 then (if best = 0 then 1 else best) else 2
def foundN (c d : Nat → Nat) (r : Nat → Int32) : Nat → Nat
  | 0 => 0
  | o + 1 => fnd (c (ou r o)) (d (ou r o)) (foundN c d r o)
theorem foundN_2 (c d : Nat → Nat) (r : Nat → Int32) : ∀ n, foundN c d r n ≤ 2
  | 0 => by simp [foundN]
  | n + 1 => by
    have h := foundN_2 c d r n
    show fnd _ _ _ ≤ 2
    unfold fnd
    repeat' split
    all_goals omega
theorem foundN_cong {c d c' d' : Nat → Nat} {r : Nat → Int32} : ∀ n, (∀ o, o < n → c (ou r o) = c' (ou r o) ∧ d (ou r o) = d' (ou r o)) → foundN c d r n = foundN c' d' r n
  | 0, _ => rfl
  | n + 1, h => by
    show fnd _ _ _ = fnd _ _ _
    rw [(h n (by omega)).1, (h n (by omega)).2, foundN_cong n (fun o ho => h o (by omega))]
/-- the test tells what c gives from what d gives, at an output below n -/
def apartN (c d : Nat → Nat) (r : Nat → Int32) (n : Nat) : Prop := ∃ o, o < n ∧ c (ou r o) ≠ 2 ∧ d (ou r o) ≠ 2 ∧ c (ou r o) ≠ d (ou r o)
def blurN (c d : Nat → Nat) (r : Nat → Int32) (n : Nat) : Prop := ∃ o, o < n ∧ c (ou r o) ≠ 2 ∧ d (ou r o) = 2
theorem foundN_is (c d : Nat → Nat) (r : Nat → Int32) : ∀ n, (foundN c d r n = 2 ↔ apartN c d r n) ∧ (foundN c d r n = 1 ↔ ¬ apartN c d r n ∧ blurN c d r n)
  | 0 => by
    constructor
    · constructor
      · intro h; simp [foundN] at h
      · rintro ⟨o, h, _⟩; omega
    · constructor
      · intro h; simp [foundN] at h
      · rintro ⟨_, o, h, _⟩; omega
  | n + 1 => by
    obtain ⟨i1, i2⟩ := foundN_is c d r n
    have h2 := foundN_2 c d r n
    have hA : apartN c d r (n + 1) ↔ apartN c d r n ∨ (c (ou r n) ≠ 2 ∧ d (ou r n) ≠ 2 ∧ c (ou r n) ≠ d (ou r n)) := by
      constructor
      · rintro ⟨o, ho, q⟩
        rcases Nat.lt_or_ge o n with z | z
        · exact Or.inl ⟨o, z, q⟩
        · have e : o = n := by omega
          rw [e] at q
          exact Or.inr q
      · rintro (⟨o, ho, q⟩ | q)
        · exact ⟨o, by omega, q⟩
        · exact ⟨n, by omega, q⟩
    have hB : blurN c d r (n + 1) ↔ blurN c d r n ∨ (c (ou r n) ≠ 2 ∧ d (ou r n) = 2) := by
      constructor
      · rintro ⟨o, ho, q⟩
        rcases Nat.lt_or_ge o n with z | z
        · exact Or.inl ⟨o, z, q⟩
        · have e : o = n := by omega
          rw [e] at q
          exact Or.inr q
      · rintro (⟨o, ho, q⟩ | q)
        · exact ⟨o, by omega, q⟩
        · exact ⟨n, by omega, q⟩
    have he : foundN c d r (n + 1) = fnd (c (ou r n)) (d (ou r n)) (foundN c d r n) := rfl
    rw [he, hA, hB]
    generalize foundN c d r n = b at *
    generalize c (ou r n) = x at *
    generalize d (ou r n) = y at *
    generalize apartN c d r n = A at *
    generalize blurN c d r n = B at *
    have hf : fnd x y b = if x = 2 then b else if x = y then b else if y = 2 then (if b = 0 then 1 else b) else 2 := rfl
    rw [hf]
    have hb : b = 0 ∨ b = 1 ∨ b = 2 := by omega
    clear hf he hA hB h2
    rcases hb with rfl | rfl | rfl <;> by_cases hx : x = 2 <;> by_cases hxy : x = y <;> by_cases hy : y = 2 <;> simp_all
theorem g_found {v : Vs} {n : Nat} {r : Nat → Int32} (h : MS v n r) (hw : WFc r) {ask : Nat → Nat} (ha : ∀ i, i < NI r → v.2.1 6 i = nI (ask i) ∧ ask i ≤ 2) (hc : ∀ w, w < NW r → v.2.1 7 w = nI (good r ask w)) {p : Nat} (hp : p ≤ NF r) : ∃ f, f_X8_found v (fI p) = some (nI (foundN (good r ask) (bad r ask p) r (NO r)), sA v 8 f) := by
  have hn := hw.nf
  obtain ⟨f, e, hf⟩ := g_bends h hw ha hc hp
  have hm := h.sA 8 f (by decide)
  refine ⟨f, ok_get ?_⟩
  unfold f_X8_found
  refine ok_o1e e ?_
  refine zl2 (I := fun m x y => ∃ o, x = nI (foundN (good r ask) (bad r ask p) r o) ∧ y = nI o ∧ o ≤ NO r ∧ m = NO r - o) ?_ FU (NO r) _ _ (by unfold FU; omega) ⟨0, rfl, rfl, by omega, by omega⟩
  rintro m x y self ⟨o, rfl, rfl, hle, rfl⟩ ih
  unfold f_X8_found_L9
  refine ok_o1e (g_outputs hm hw) ?_
  by_cases hb : NO r ≤ o
  · rw [ift hb (by omega)]
    have e : o = NO r := by omega
    rw [e]
    exact ok_some rfl
  · rw [iff_ hb (by omega)]
    obtain ⟨e1, e2⟩ := g_atClean hm hw (o := o) (by omega)
    obtain ⟨d1, d2⟩ := g_atBent hm hw (o := o) (by omega)
    rw [z_sA3 _ _ _ (by decide), hc _ e2] at e1
    rw [z_sA2, hf _ e2] at d1
    refine ok_o1e e1 ?_
    refine ok_o1e d1 ?_
    have g1 := good_2 hw (fun i hi => (ha i hi).2) (ou r o + 1) _ (by omega) e2
    have g2 := bad_2 hw (fun i hi => (ha i hi).2) p (ou r o + 1) _ (by omega) e2
    have g3 := foundN_2 (good r ask) (bad r ask p) r o
    have ih' := ih (NO r - (o + 1)) (nI (foundN (good r ask) (bad r ask p) r (o + 1))) (nI (o + 1)) (by omega) ⟨o + 1, rfl, rfl, by omega, rfl⟩
    have eg : foundN (good r ask) (bad r ask p) r (o + 1) = fnd (good r ask (ou r o)) (bad r ask p (ou r o)) (foundN (good r ask) (bad r ask p) r o) := rfl
    rw [eg] at ih'
    rw [z_l1, nI_add]
    generalize foundN (good r ask) (bad r ask p) r o = b at g3 ih' ⊢
    generalize good r ask (ou r o) = y at g1 ih' ⊢
    generalize bad r ask p (ou r o) = z at g2 ih' ⊢
    have hb : b = 0 ∨ b = 1 ∨ b = 2 := by omega
    have hy : y = 0 ∨ y = 1 ∨ y = 2 := by omega
    have hz : z = 0 ∨ z = 1 ∨ z = 2 := by omega
    rcases hb with rfl | rfl | rfl <;> rcases hy with rfl | rfl | rfl <;> rcases hz with rfl | rfl | rfl <;> exact ih'
