/-! sets of values: 1 is 0, 2 is 1, 3 is both -/
def sv (v : Nat) : Nat := if v = 2 then 3 else v + 1
theorem sv_3 {v : Nat} (h : v ≤ 2) : sv v ≤ 3 ∧ 1 ≤ sv v := by unfold sv; split <;> omega
theorem sv_inj {a b : Nat} (ha : a ≤ 2) (hb : b ≤ 2) : sv a = sv b ↔ a = b := by unfold sv; split <;> split <;> omega
theorem sv_is3 {a : Nat} (ha : a ≤ 2) : sv a = 3 ↔ a = 2 := by unfold sv; split <;> omega
def gv (k m : Nat) (c : Nat → Nat) : Nat := if k = 6 then tn (c 0) else if k = 7 then c 0 else if k = 8 then mx (c 0) (c 1) (c 2) else fin2 k (gfold k c (m - 1))
theorem gval_gv (r : Nat → Int32) (w : Nat) (c : Nat → Nat) : gval r w c = gv (kd r w) (hv r w) (fun k => c (op r w k)) := rfl
def opV (m : Nat) (c : Nat → Nat) : Nat → Vs
  | 0 => aV (nI m) (fun _ => 0)
  | k + 1 => sI (opV m c k) 0 k (nI (sv (c k)))
theorem opV_9 (m : Nat) (c : Nat → Nat) : ∀ k, (opV m c k).1 9 = nI m
  | 0 => rfl
  | k + 1 => opV_9 m c k
theorem opV_cong (m : Nat) {c d : Nat → Nat} : ∀ k, (∀ j, j < k → c j = d j) → opV m c k = opV m d k
  | 0, _ => rfl
  | k + 1, h => by
    show sI (opV m c k) 0 k (nI (sv (c k))) = sI (opV m d k) 0 k (nI (sv (d k)))
    rw [opV_cong m k (fun j hj => h j (by omega)), h k (by omega)]
theorem gv_cong {k m : Nat} {c d : Nat → Nat} (h1 : few k ≤ m) (h : ∀ j, j < m → c j = d j) : gv k m c = gv k m d := by
  have h2 := few_1 k
  unfold gv
  by_cases q6 : k = 6
  · rw [if_pos q6, if_pos q6, h 0 (by omega)]
  · rw [if_neg q6, if_neg q6]
    by_cases q7 : k = 7
    · rw [if_pos q7, if_pos q7, h 0 (by omega)]
    · rw [if_neg q7, if_neg q7]
      by_cases q8 : k = 8
      · have : 3 ≤ m := by rw [q8] at h1; exact h1
        rw [if_pos q8, if_pos q8, h 0 (by omega), h 1 (by omega), h 2 (by omega)]
      · rw [if_neg q8, if_neg q8, gfold_cong (m - 1) (fun j hj => h j (by omega))]
def l4 (a b c d : Nat) : Nat → Nat := fun j => if j = 0 then a else if j = 1 then b else if j = 2 then c else d
theorem st_1 : ∀ k, k < 9 → few k ≤ 1 → ∀ a, a < 3 → f_L_sets (opV 1 (l4 a 0 0 0) 1) (nI k) = some (nI (sv (gv k 1 (l4 a 0 0 0)))) := by decide +kernel
theorem st_2 : ∀ k, k < 6 → ∀ a, a < 3 → ∀ b, b < 3 → f_L_sets (opV 2 (l4 a b 0 0) 2) (nI k) = some (nI (sv (gv k 2 (l4 a b 0 0)))) := by decide +kernel
theorem st_38 : ∀ a, a < 3 → ∀ b, b < 3 → ∀ c, c < 3 → f_L_sets (opV 3 (l4 a b c 0) 3) (nI 8) = some (nI (sv (gv 8 3 (l4 a b c 0)))) := by decide +kernel
theorem st_3 : ∀ k, k < 6 → ∀ a, a < 3 → ∀ b, b < 3 → ∀ c, c < 3 → f_L_sets (opV 3 (l4 a b c 0) 3) (nI k) = some (nI (sv (gv k 3 (l4 a b c 0)))) := by decide +kernel
theorem st_4 : ∀ k, k < 6 → ∀ a, a < 3 → ∀ b, b < 3 → ∀ c, c < 3 → ∀ d, d < 3 → f_L_sets (opV 4 (l4 a b c d) 4) (nI k) = some (nI (sv (gv k 4 (l4 a b c d)))) := by decide +kernel
theorem m_sets {k m : Nat} {c : Nat → Nat} (hk : k ≤ 8) (h1 : few k ≤ m) (h2 : m ≤ mst k) (hc : ∀ j, j < m → c j ≤ 2) : f_L_sets (opV m c m) (nI k) = some (nI (sv (gv k m c))) := by
  have h3 := few_1 k
  have h4 := mst_4 k
  have hl : ∀ a b d e, (∀ j, j < m → c j = l4 a b d e j) → f_L_sets (opV m (l4 a b d e) m) (nI k) = some (nI (sv (gv k m (l4 a b d e)))) → f_L_sets (opV m c m) (nI k) = some (nI (sv (gv k m c))) := fun a b d e h q => by
    rw [opV_cong m m h, gv_cong h1 h]
    exact q
  have hm : m = 1 ∨ m = 2 ∨ m = 3 ∨ m = 4 := by omega
  have hkk : k < 6 ∨ k = 6 ∨ k = 7 ∨ k = 8 := by omega
  rcases hm with rfl | rfl | rfl | rfl
  · have a0 := hc 0 (by omega)
    refine hl (c 0) 0 0 0 (fun j hj => ?_) (st_1 k (by omega) h1 _ (by omega))
    have : j = 0 := by omega
    rw [this]; rfl
  · have a0 := hc 0 (by omega)
    have a1 := hc 1 (by omega)
    rcases hkk with q | rfl | rfl | rfl
    · refine hl (c 0) (c 1) 0 0 (fun j hj => ?_) (st_2 k q _ (by omega) _ (by omega))
      have : j = 0 ∨ j = 1 := by omega
      rcases this with e | e <;> rw [e] <;> rfl
    · exact absurd h2 (by decide)
    · exact absurd h2 (by decide)
    · exact absurd h1 (by decide)
  · have a0 := hc 0 (by omega)
    have a1 := hc 1 (by omega)
    have a2 := hc 2 (by omega)
    have hj3 : ∀ j, j < 3 → c j = l4 (c 0) (c 1) (c 2) 0 j := fun j hj => by
      have : j = 0 ∨ j = 1 ∨ j = 2 := by omega
      rcases this with e | e | e <;> rw [e] <;> rfl
    rcases hkk with q | rfl | rfl | rfl
    · exact hl (c 0) (c 1) (c 2) 0 hj3 (st_3 k q _ (by omega) _ (by omega) _ (by omega))
    · exact absurd h2 (by decide)
    · exact absurd h2 (by decide)
    · exact hl (c 0) (c 1) (c 2) 0 hj3 (st_38 _ (by omega) _ (by omega) _ (by omega))
  · have a0 := hc 0 (by omega)
    have a1 := hc 1 (by omega)
    have a2 := hc 2 (by omega)
    have a3 := hc 3 (by omega)
    have hj4 : ∀ j, j < 4 → c j = l4 (c 0) (c 1) (c 2) (c 3) j := fun j hj => by
      have : j = 0 ∨ j = 1 ∨ j = 2 ∨ j = 3 := by omega
      rcases this with e | e | e | e <;> rw [e] <;> rfl
    rcases hkk with q | rfl | rfl | rfl
    · exact hl (c 0) (c 1) (c 2) (c 3) hj4 (st_4 k q _ (by omega) _ (by omega) _ (by omega) _ (by omega))
    · exact absurd h2 (by decide)
    · exact absurd h2 (by decide)
    · exact absurd h2 (by decide)
