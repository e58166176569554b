/-! the reference: all full tests -/
theorem gfold_1 {k : Nat} {f : Nat → Nat} : ∀ n, (∀ j, j ≤ n → f j ≤ 1) → gfold k f n ≤ 1
  | 0, h => h 0 (Nat.le_refl 0)
  | n + 1, h => by
    have h1 := gfold_1 n (k := k) (fun j hj => h j (by omega))
    have h2 := h (n + 1) (Nat.le_refl _)
    show st2 k (gfold k f n) (f (n + 1)) ≤ 1
    generalize gfold k f n = a at h1 ⊢
    generalize f (n + 1) = b at h2 ⊢
    unfold st2 xo dc
    repeat' split
    all_goals omega
theorem gval_1 {r : Nat → Int32} {w : Nat} {c : Nat → Nat} (h : ∀ k, k < hv r w → c (op r w k) ≤ 1) (h1 : few (kd r w) ≤ hv r w) : gval r w c ≤ 1 := by
  have h2 := few_1 (kd r w)
  have h0 := h 0 (by omega)
  unfold gval
  split
  · unfold tn; split <;> omega
  · split
    · exact h0
    · split
      · rename_i h8
        have e : few (kd r w) = 3 := by rw [h8]; rfl
        have a1 := h 1 (by omega)
        have a2 := h 2 (by omega)
        unfold mx
        repeat' split
        all_goals omega
      · have hg := gfold_1 (k := kd r w) (f := fun k => c (op r w k)) (hv r w - 1) (fun j hj => h j (by omega))
        unfold fin2 tn
        repeat' split
        all_goals omega
theorem good_1 {r : Nat → Int32} (hw : WFc r) {ask : Nat → Nat} (ha : ∀ i, i < NI r → ask i ≤ 1) : ∀ n w, w < n → w < NW r → good r ask w ≤ 1
  | 0, w, h, _ => by omega
  | n + 1, w, h, h2 => by
    by_cases h1 : w < NI r
    · rw [good_in h1]; exact ha w h1
    · rw [good_at hw h1 h2]
      have h3 := hw.2.2.2.2.2.1 w (by omega) h2
      exact gval_1 (fun k hk => have h4 := (hw.2.2.2.2.2.2.1 w k (by omega) h2 hk).2; good_1 hw ha n _ (by omega) (by omega)) h3.2.2.1
theorem told_1 {r : Nat → Int32} (hw : WFc r) {ask : Nat → Nat} (ha : ∀ i, i < NI r → ask i ≤ 1) {p w v : Nat} (hp : p ≤ NF r) (h : told r ask p w = some v) : v ≤ 1 := by
  have hn := hw.nf
  unfold told at h
  split at h
  · cases h
  · split at h
    · split at h
      · cases h; omega
      · cases h
    · split at h
      · rename_i h0 h1 h2
        have hb := hw.2.2.2.2.2.2.2.2 (p - 1 - 2 * NW r) (by omega)
        have g1 := good_1 hw ha (ba r (p - 1 - 2 * NW r) + 1) _ (by omega) hb.2.1.2
        have g2 := good_1 hw ha (bb r (p - 1 - 2 * NW r) + 1) _ (by omega) hb.2.2.2
        cases h
        unfold dc
        repeat' split
        all_goals omega
      · cases h
theorem bad_1 {r : Nat → Int32} (hw : WFc r) {ask : Nat → Nat} (ha : ∀ i, i < NI r → ask i ≤ 1) {p : Nat} (hp : p ≤ NF r) : ∀ n w, w < n → w < NW r → bad r ask p w ≤ 1
  | 0, w, h, _ => by omega
  | n + 1, w, h, h2 => by
    cases h0 : told r ask p w with
    | some v => rw [bad_some h0]; exact told_1 hw ha hp h0
    | none =>
      by_cases h1 : w < NI r
      · rw [bad_in h0 h1]; exact ha w h1
      · rw [bad_at hw h0 h1 h2]
        have h3 := hw.2.2.2.2.2.1 w (by omega) h2
        exact gval_1 (fun k hk => have h4 := (hw.2.2.2.2.2.2.1 w k (by omega) h2 hk).2; bad_1 hw ha hp n _ (by omega) (by omega)) h3.2.2.1
/-- where what fault p - 1 gives lies (0: without a fault) -/
def ix (p : Nat) : Nat := if p = 0 then 56 else p - 1
/-- what all outputs give for the full test N -/
def BW (r : Nat → Int32) (p N : Nat) : Nat := bitsN (fun o => bad r (fq N) p (ou r o)) (NO r)
theorem BW_64 {r : Nat → Int32} (hw : WFc r) {p N : Nat} (hp : p ≤ NF r) : BW r p N < 64 := by
  have hn := hw.nf
  have h1 := bitsN_lt (f := fun o => bad r (fq N) p (ou r o)) (NO r) (fun o ho => bad_1 hw (fun i _ => fq_1 N i) hp (ou r o + 1) _ (by omega) (hw.2.2.2.2.2.2.2.1 o ho).2)
  have h2 : 2 ^ NO r ≤ 2 ^ 6 := Nat.pow_le_pow_right (by omega) (by omega)
  unfold BW
  omega
theorem fulls_256 {r : Nat → Int32} (hw : WFc r) : 2 ^ NI r ≤ 256 ∧ 1 ≤ 2 ^ NI r := by
  have hn := hw.nf
  exact ⟨show 2 ^ NI r ≤ 2 ^ 8 from Nat.pow_le_pow_right (by omega) (by omega), Nat.one_le_two_pow⟩
theorem ix_lt {r : Nat → Int32} (hw : WFc r) {p : Nat} (hp : p ≤ NF r) : ix p < 57 := by
  have hn := hw.nf
  unfold ix
  split <;> omega
theorem ix_inj {r : Nat → Int32} (hw : WFc r) {p q : Nat} (hp : p ≤ NF r) (hq : q ≤ NF r) (h : ix p = ix q) : p = q := by
  have hn := hw.nf
  unfold ix at h
  split at h <;> split at h <;> omega
/-- the first below n at which p holds (n: none) -/
def fst (p : Nat → Bool) : Nat → Nat
  | 0 => 0
  | n + 1 => if fst p n < n then fst p n else if p n then n else n + 1
theorem fst_no {p : Nat → Bool} : ∀ n, (∀ k, k < n → p k = false) → fst p n = n
  | 0, _ => rfl
  | n + 1, h => by
    have h1 := fst_no n (fun k hk => h k (by omega))
    show (if fst p n < n then fst p n else if p n then n else n + 1) = n + 1
    rw [h1, if_neg (by omega), h n (by omega)]
    rfl
theorem fst_yes {p : Nat → Bool} : ∀ n k, k < n → p k = true → (∀ j, j < k → p j = false) → fst p n = k
  | 0, k, hk, _, _ => by omega
  | n + 1, k, hk, hp, hj => by
    show (if fst p n < n then fst p n else if p n then n else n + 1) = k
    rcases Nat.lt_or_ge k n with q | q
    · have h1 := fst_yes n k q hp hj
      rw [h1, if_pos q]
    · have e : k = n := by omega
      subst e
      rw [fst_no k hj, if_neg (by omega), hp]
      rfl
theorem fst_cong {p q : Nat → Bool} : ∀ n, (∀ k, k < n → p k = q k) → fst p n = fst q n
  | 0, _ => rfl
  | n + 1, h => by
    show (if fst p n < n then fst p n else if p n then n else n + 1) = (if fst q n < n then fst q n else if q n then n else n + 1)
    rw [fst_cong n (fun k hk => h k (by omega)), h n (by omega)]
def fstI (p : Nat → Bool) (n : Nat) : Int32 := if fst p n < n then nI (fst p n) else im1
theorem fstI_no {p : Nat → Bool} {n : Nat} (h : ∀ k, k < n → p k = false) : fstI p n = im1 := by
  unfold fstI
  rw [fst_no n h, if_neg (by omega)]
theorem fstI_yes {p : Nat → Bool} {n k : Nat} (hk : k < n) (hp : p k = true) (hj : ∀ j, j < k → p j = false) : fstI p n = nI k := by
  unfold fstI
  rw [fst_yes n k hk hp hj, if_pos hk]
/-- full test N tells p from q -/
def DF (r : Nat → Int32) (p q N : Nat) : Bool := decide (BW r p N ≠ BW r q N)
def LY (v : Vs) (r : Nat → Int32) : Prop := ∀ N, N < 2 ^ NI r → ∀ p, p ≤ NF r → v.2.1 10 (256 * ix p + N) = nI (BW r p N)
