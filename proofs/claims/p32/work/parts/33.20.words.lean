/-! words: the class's isWord, the reference's here and takes -/
def wl (i : Nat) : Nat := lenS.getD i 0
def wc (i k : Nat) : Nat := ((bytS.getD i []).getD k 0).toNatClampNeg
def WS : List Nat := [3, 4, 6, 7, 10, 13, 14, 15, 16, 18, 19, 21, 24, 25, 26]
set_option maxRecDepth 20000 in
theorem words : ∀ i, i ∈ WS → f_J0_length_8abf5 i = some (nI (wl i)) ∧ 0 < wl i ∧ wl i < 20 ∧ ∀ k, k < wl i → f_J0_charAt_5068e (nI k) i = some (nI (wc i k)) ∧ 97 ≤ wc i k ∧ wc i k ≤ 122 := by decide +kernel
/-- the letters from s on are the word i -/
def isW (B : Nat → Nat) (M s i : Nat) : Bool := decide (rn isLt B M s = s + wl i ∧ ∀ k, k < wl i → B (s + k) = wc i k)
theorem dg_lt {b : Nat} (h : isLt b = true) : isDg b = false := by
  unfold isLt at h
  unfold isDg
  rw [decide_eq_true_iff] at h
  rw [decide_eq_false_iff_not]
  omega
theorem isW_kind {B : Nat → Nat} {M s i : Nat} (hi : i ∈ WS) (h : isW B M s i = true) : tkind B M s = 1 ∧ tend B M s = s + wl i ∧ s < M := by
  obtain ⟨-, h0, -⟩ := words i hi
  unfold isW at h
  rw [decide_eq_true_iff] at h
  have hq : s < M ∧ isLt (B s) = true := by
    by_cases q : s < M ∧ isLt (B s) = true
    · exact q
    · have := rn_no q
      omega
  have hd := dg_lt hq.2
  unfold tkind tend
  rw [if_pos hq.1, if_pos hq.1, hd, if_neg Bool.false_ne_true, if_neg Bool.false_ne_true, if_pos hq.2, if_pos hq.2]
  exact ⟨rfl, h.1, hq.1⟩
theorem x_isWord {B : Nat → Nat} {M s : Nat} {v : Vs} (hB : DB B M v) (hT : TK B M v s) (hs : s ≤ M) {i : Nat} (hi : i ∈ WS) : f_X5_isWord v i = some (nI (if isW B M s i then 1 else 0)) := by
  obtain ⟨h5, h800, hb⟩ := hB
  obtain ⟨t8, t7, t6, -⟩ := hT
  obtain ⟨w1, w0, w20, wch⟩ := words i hi
  refine ok_get ?_
  unfold f_X5_isWord
  refine ok_jn ?_
  have no : isW B M s i = false → Ok (gd (isB (0 : Int32)) (some (0 : Int32))) (fun a => a = nI (if isW B M s i then 1 else 0)) := fun h => by
    rw [h]
    exact ok_gd (by decide) (ok_some rfl)
  have hk4 : tkind B M s ≤ 4 := by unfold tkind; (repeat' split) <;> omega
  rw [t7, z_l1]
  by_cases hk : tkind B M s = 1
  · rw [iet hk]
    refine ok_o1e w1 ?_
    have hq : s < M ∧ isLt (B s) = true ∧ tend B M s = rn isLt B M s := by
      unfold tkind at hk
      unfold tend
      by_cases a : s < M
      · rw [if_pos a] at hk ⊢
        by_cases b : isDg (B s) = true
        · rw [if_pos b] at hk; omega
        · rw [if_neg b] at hk ⊢
          by_cases c : isLt (B s) = true
          · rw [if_pos c] at hk ⊢
            exact ⟨a, c, rfl⟩
          · rw [if_neg c] at hk
            split at hk <;> omega
      · rw [if_neg a] at hk; omega
    obtain ⟨hq1, hq2, hq3⟩ := hq
    have hge := rn_ge isLt B M s
    have hle := rn_le isLt B hs
    rw [t6, t8, z_sub (by omega), hq3]
    by_cases hn : rn isLt B M s - s = wl i
    · rw [iet hn]
      refine zl1 (I := fun m x => ∃ k, x = nI k ∧ k ≤ wl i ∧ m = wl i - k ∧ ∀ j, j < k → B (s + j) = wc i j) ?_ FU (wl i) _ (by unfold FU; omega) ⟨0, rfl, by omega, by omega, fun j hj => by omega⟩
      rintro m x self ⟨k, rfl, hkl, rfl, hj⟩ ih
      unfold f_X5_isWord_L28
      refine ok_o1e w1 ?_
      refine ok_jn ?_
      by_cases hb2 : wl i ≤ k
      · rw [ift hb2 (by omega)]
        refine ok_gd (by decide) (ok_some ?_)
        have : isW B M s i = true := by
          unfold isW
          rw [decide_eq_true_iff]
          exact ⟨by omega, fun j h => hj j (by omega)⟩
        rw [this]
        rfl
      · rw [iff_ hb2 (by omega), h5, t8, nI_add, iff_ (by omega) (by omega)]
        refine ok_gd (z_inb (by omega) (by omega)) ?_
        obtain ⟨c1, c2, c3⟩ := wch k (by omega)
        refine ok_o1e c1 ?_
        rw [z_cl (by omega), (hb (s + k) (by omega)).1]
        have b256 := (hb (s + k) (by omega)).2
        by_cases hc : B (s + k) = wc i k
        · rw [iet hc, z_l1, nI_add]
          refine ih _ _ (by omega) ⟨k + 1, rfl, by omega, rfl, fun j hj2 => ?_⟩
          by_cases e : j = k
          · rw [e]; exact hc
          · exact hj j (by omega)
        · rw [ief hc (by omega) (by omega)]
          refine no ?_
          unfold isW
          rw [decide_eq_false_iff_not]
          exact fun h => hc (h.2 k (by omega))
    · rw [ief hn (by omega) (by omega)]
      refine no ?_
      unfold isW
      rw [decide_eq_false_iff_not]
      exact fun h => hn (by omega)
  · rw [ief hk (by omega) (by omega)]
    refine no ?_
    cases h : isW B M s i with
    | false => rfl
    | true => exact absurd (isW_kind hi h).1 hk
-- the reference
def DM (B : Nat → Nat) (M : Nat) (v : Vs) : Prop := v.1 13 = nI M ∧ M ≤ 800 ∧ ∀ i, i < M → v.2.1 11 i = nI (B i) ∧ B i < 256
/-- only the place has changed -/
def AT (v v' : Vs) (s : Nat) : Prop := v'.2 = v.2 ∧ v'.1 14 = nI s ∧ ∀ j, j ≠ 14 → v'.1 j = v.1 j
theorem DM.at {B : Nat → Nat} {M s : Nat} {v v' : Vs} (h : DM B M v) (ha : AT v v' s) : DM B M v' := ⟨by rw [ha.2.2 13 (by decide)]; exact h.1, h.2.1, fun i hi => by rw [ha.1]; exact h.2.2 i hi⟩
theorem AT.tr {a b c : Vs} {s t : Nat} (h : AT a b s) (h2 : AT b c t) : AT a c t := ⟨h2.1.trans h.1, h2.2.1, fun j hj => (h2.2.2 j hj).trans (h.2.2 j hj)⟩
