/-! the reference: questions, what is found -/
def fq (N i : Nat) : Nat := N / 2 ^ i % 2
theorem fq_1 (N i : Nat) : fq N i ≤ 1 := by unfold fq; omega
theorem g_fq : ∀ N, N < 256 → ∀ i, i < 8 → ((nI N >>> (nI i &&& 31)) &&& nI 1) = nI (fq N i) := by decide +kernel
/-- the outputs' values as one number -/
def bitsN (f : Nat → Nat) : Nat → Nat
  | 0 => 0
  | n + 1 => bitsN f n + f n * 2 ^ n
theorem bitsN_lt {f : Nat → Nat} : ∀ n, (∀ j, j < n → f j ≤ 1) → bitsN f n < 2 ^ n
  | 0, _ => by simp [bitsN]
  | n + 1, h => by
    have h1 := bitsN_lt n (fun j hj => h j (by omega))
    have h2 := h n (by omega)
    have h3 : f n * 2 ^ n ≤ 1 * 2 ^ n := Nat.mul_le_mul_right _ h2
    have h4 : bitsN f (n + 1) = bitsN f n + f n * 2 ^ n := rfl
    rw [Nat.pow_succ]
    omega
theorem bitsN_inj {f g : Nat → Nat} : ∀ n, (∀ j, j < n → f j ≤ 1) → (∀ j, j < n → g j ≤ 1) → bitsN f n = bitsN g n → ∀ j, j < n → f j = g j
  | 0, _, _, _, j, hj => by omega
  | n + 1, hf, hg, he, j, hj => by
    have h1 := bitsN_lt n (fun j hj => hf j (by omega))
    have h2 := bitsN_lt n (fun j hj => hg j (by omega))
    have h3 : bitsN f (n + 1) = bitsN f n + f n * 2 ^ n := rfl
    have h4 : bitsN g (n + 1) = bitsN g n + g n * 2 ^ n := rfl
    have f1 := hf n (by omega)
    have g1 := hg n (by omega)
    have e1 : f n = 0 ∨ f n = 1 := by omega
    have e2 : g n = 0 ∨ g n = 1 := by omega
    have e3 : f n = g n ∧ bitsN f n = bitsN g n := by
      rw [h3, h4] at he
      rcases e1 with q | q <;> rcases e2 with q2 | q2 <;> rw [q, q2] at he ⊢ <;> omega
    rcases Nat.lt_or_ge j n with q | q
    · exact bitsN_inj n (fun j hj => hf j (by omega)) (fun j hj => hg j (by omega)) e3.2 j q
    · have : j = n := by omega
      rw [this]
      exact e3.1
theorem bitsN_cong {f g : Nat → Nat} : ∀ n, (∀ j, j < n → f j = g j) → bitsN f n = bitsN g n
  | 0, _ => rfl
  | n + 1, h => by
    show bitsN f n + f n * 2 ^ n = bitsN g n + g n * 2 ^ n
    rw [bitsN_cong n (fun j hj => h j (by omega)), h n (by omega)]
theorem g_orb : ∀ o, o < 6 → ∀ b, b < 2 ^ o → ∀ x, x < 2 → (nI b ||| (nI x <<< (nI o &&& 31))) = nI (b + x * 2 ^ o) := by decide +kernel
/-- one output more: 2 found, 1 perhaps -/
def fnd (a b best : Nat) : Nat := if a = 2 then best else if a = b then best else if b = 2 then (if best = 0 then 1 else best) else 2
def foundN (c d : Nat → Nat) (r : Nat → Int32) : Nat → Nat
  | 0 => 0
  | o + 1 => fnd (c (ou r o)) (d (ou r o)) (foundN c d r o)
theorem foundN_2 (c d : Nat → Nat) (r : Nat → Int32) : ∀ n, foundN c d r n ≤ 2
  | 0 => by simp [foundN]
  | n + 1 => by
    have h := foundN_2 c d r n
    show fnd _ _ _ ≤ 2
    unfold fnd
    repeat' split
    all_goals omega
theorem foundN_cong {c d c' d' : Nat → Nat} {r : Nat → Int32} : ∀ n, (∀ o, o < n → c (ou r o) = c' (ou r o) ∧ d (ou r o) = d' (ou r o)) → foundN c d r n = foundN c' d' r n
  | 0, _ => rfl
  | n + 1, h => by
    show fnd _ _ _ = fnd _ _ _
    rw [(h n (by omega)).1, (h n (by omega)).2, foundN_cong n (fun o ho => h o (by omega))]
/-- the test tells what c gives from what d gives, at an output below n -/
def apartN (c d : Nat → Nat) (r : Nat → Int32) (n : Nat) : Prop := ∃ o, o < n ∧ c (ou r o) ≠ 2 ∧ d (ou r o) ≠ 2 ∧ c (ou r o) ≠ d (ou r o)
def blurN (c d : Nat → Nat) (r : Nat → Int32) (n : Nat) : Prop := ∃ o, o < n ∧ c (ou r o) ≠ 2 ∧ d (ou r o) = 2
theorem foundN_is (c d : Nat → Nat) (r : Nat → Int32) : ∀ n, (foundN c d r n = 2 ↔ apartN c d r n) ∧ (foundN c d r n = 1 ↔ ¬ apartN c d r n ∧ blurN c d r n)
  | 0 => by
    constructor
    · constructor
      · intro h; simp [foundN] at h
      · rintro ⟨o, h, _⟩; omega
    · constructor
      · intro h; simp [foundN] at h
      · rintro ⟨_, o, h, _⟩; omega
  | n + 1 => by
    obtain ⟨i1, i2⟩ := foundN_is c d r n
    have h2 := foundN_2 c d r n
    have hA : apartN c d r (n + 1) ↔ apartN c d r n ∨ (c (ou r n) ≠ 2 ∧ d (ou r n) ≠ 2 ∧ c (ou r n) ≠ d (ou r n)) := by
      constructor
      · rintro ⟨o, ho, q⟩
        rcases Nat.lt_or_ge o n with z | z
        · exact Or.inl ⟨o, z, q⟩
        · have e : o = n := by omega
          rw [e] at q
          exact Or.inr q
      · rintro (⟨o, ho, q⟩ | q)
        · exact ⟨o, by omega, q⟩
        · exact ⟨n, by omega, q⟩
    have hB : blurN c d r (n + 1) ↔ blurN c d r n ∨ (c (ou r n) ≠ 2 ∧ d (ou r n) = 2) := by
      constructor
      · rintro ⟨o, ho, q⟩
        rcases Nat.lt_or_ge o n with z | z
        · exact Or.inl ⟨o, z, q⟩
        · have e : o = n := by omega
          rw [e] at q
          exact Or.inr q
      · rintro (⟨o, ho, q⟩ | q)
        · exact ⟨o, by omega, q⟩
        · exact ⟨n, by omega, q⟩
    have he : foundN c d r (n + 1) = fnd (c (ou r n)) (d (ou r n)) (foundN c d r n) := rfl
    rw [he, hA, hB]
    generalize foundN c d r n = b at *
    generalize c (ou r n) = x at *
    generalize d (ou r n) = y at *
    generalize apartN c d r n = A at *
    generalize blurN c d r n = B at *
    have hf : fnd x y b = if x = 2 then b else if x = y then b else if y = 2 then (if b = 0 then 1 else b) else 2 := rfl
    rw [hf]
    have hb : b = 0 ∨ b = 1 ∨ b = 2 := by omega
    clear hf he hA hB h2
    rcases hb with rfl | rfl | rfl <;> by_cases hx : x = 2 <;> by_cases hxy : x = y <;> by_cases hy : y = 2 <;> simp_all
