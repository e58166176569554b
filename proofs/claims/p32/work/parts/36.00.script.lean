/-! the script: its cells, what is drawn of them -/
def cX (L : Nat) (X : Nat → Int32) (k : Nat) : Int32 := if k < L then X k else 0
theorem l_cell {L : Nat} (hL : L ≤ 260) (X : Nat → Int32) {k : Nat} (hk : k < 1000) : f_L_cell (nI k) L X = some (cX L X k) := by
  unfold f_L_cell cX
  rw [z_jn]
  by_cases h : L ≤ k
  · rw [ift h (by omega), if_neg (by omega)]
  · rw [iff_ h (by omega), if_pos (by omega), z_inb (by omega) (by omega), z_gt, z_cl (by omega)]
def bd (x : Int32) (n : Nat) : Nat := NI_ (x &&& (2147483647 : Int32)) % n
theorem bd_lt (x : Int32) {n : Nat} (hn : 0 < n) : bd x n < n := Nat.mod_lt _ hn
theorem l_bound (x : Int32) {n : Nat} (h0 : 0 < n) (hn : n < 2147483648) : f_L_bound x (nI n) = some (nI (bd x n)) := by
  have h1 : NI_ (x &&& (2147483647 : Int32)) < 2147483648 := by
    rw [nI_and, show NI_ (2147483647 : Int32) = 2147483647 from rfl]
    have := Nat.and_le_right (n := NI_ x) (m := 2147483647)
    omega
  unfold f_L_bound bd
  rw [z_nz h0 hn, z_gt]
  generalize ha : NI_ (x &&& (2147483647 : Int32)) = a at h1
  have e : x &&& (2147483647 : Int32) = nI a := by rw [← ha]; exact (nI_NI _).symm
  have h2 : a / n * n ≤ a := Nat.div_mul_le_self a n
  rw [e, z_div h1 hn, z_mul, z_sub h2]
  congr 2
  have := Nat.div_add_mod a n
  rw [Nat.mul_comm] at this
  omega
def pI (L : Nat) (X : Nat → Int32) : Nat := 2 + bd (cX L X 0) 2
def pG (L : Nat) (X : Nat → Int32) : Nat := 3 + bd (cX L X 1) 4
def pK (L : Nat) (X : Nat → Int32) (g : Nat) : Nat := bd (cX L X (2 + g)) 9
def pn (L : Nat) (X : Nat → Int32) (g : Nat) : Nat := if pK L X g = 8 then 3 else if pK L X g ≤ 5 then 2 + bd (cX L X (2 + g) >>> ((4 : Int32) &&& 31)) 3 else 1
def po (L : Nat) (X : Nat → Int32) (g k : Nat) : Nat := bd (cX L X (2 + g) >>> (nI (6 + 5 * k) &&& 31)) (pI L X + g)
theorem p_ok (L : Nat) (X : Nat → Int32) : (2 ≤ pI L X ∧ pI L X ≤ 3) ∧ (3 ≤ pG L X ∧ pG L X ≤ 6) ∧ (∀ g, pK L X g < 9) ∧ (∀ g, few (pK L X g) ≤ pn L X g) ∧ (∀ g, pn L X g ≤ mst (pK L X g)) ∧ (∀ g k, po L X g k < pI L X + g) ∧ (∀ g, pn L X g ≤ 4) ∧ ∀ g, 1 ≤ pn L X g := by
  have h1 := bd_lt (cX L X 0) (n := 2) (by omega)
  have h2 := bd_lt (cX L X 1) (n := 4) (by omega)
  have hK : ∀ g, pK L X g < 9 := fun g => bd_lt _ (by omega)
  have hfm : ∀ g, few (pK L X g) ≤ pn L X g ∧ pn L X g ≤ mst (pK L X g) := fun g => by
    have h3 := bd_lt (cX L X (2 + g) >>> ((4 : Int32) &&& 31)) (n := 3) (by omega)
    have := hK g
    unfold few mst pn
    generalize pK L X g = K at this
    by_cases q8 : K = 8
    · rw [if_pos q8, if_pos q8, if_pos q8]; omega
    · rw [if_neg q8, if_neg q8, if_neg q8]
      by_cases q5 : K ≤ 5
      · rw [if_pos q5, if_neg (by omega), if_neg (by omega), if_neg (by omega), if_neg (by omega)]; omega
      · rw [if_neg q5]
        have : K = 6 ∨ K = 7 := by omega
        rcases this with rfl | rfl <;> decide
  unfold pI pG
  exact ⟨by omega, by omega, hK, fun g => (hfm g).1, fun g => (hfm g).2, fun g k => bd_lt _ (by unfold pI; omega), fun g => Nat.le_trans (hfm g).2 (mst_4 _), fun g => Nat.le_trans (few_1 _) (hfm g).1⟩
