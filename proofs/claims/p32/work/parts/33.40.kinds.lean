/-! kinds of gates, on both sides; what a number says of a wire -/
def kwI (B : Nat → Nat) (M s : Nat) : Int32 := if isW B M s 3 = true then nI 0 else if isW B M s 18 = true then nI 1 else if isW B M s 14 = true then nI 2 else if isW B M s 15 = true then nI 3 else if isW B M s 26 = true then nI 4 else if isW B M s 25 = true then nI 5 else if isW B M s 16 = true then nI 6 else if isW B M s 6 = true then nI 7 else if isW B M s 13 = true then nI 8 else im1
theorem kwI_or (B : Nat → Nat) (M s : Nat) : kwI B M s = im1 ∨ ∃ k, k < 9 ∧ kwI B M s = nI k := by
  unfold kwI
  by_cases c0 : isW B M s 3 = true
  · rw [if_pos c0]; exact Or.inr ⟨0, by omega, rfl⟩
  rw [if_neg c0]
  by_cases c1 : isW B M s 18 = true
  · rw [if_pos c1]; exact Or.inr ⟨1, by omega, rfl⟩
  rw [if_neg c1]
  by_cases c2 : isW B M s 14 = true
  · rw [if_pos c2]; exact Or.inr ⟨2, by omega, rfl⟩
  rw [if_neg c2]
  by_cases c3 : isW B M s 15 = true
  · rw [if_pos c3]; exact Or.inr ⟨3, by omega, rfl⟩
  rw [if_neg c3]
  by_cases c4 : isW B M s 26 = true
  · rw [if_pos c4]; exact Or.inr ⟨4, by omega, rfl⟩
  rw [if_neg c4]
  by_cases c5 : isW B M s 25 = true
  · rw [if_pos c5]; exact Or.inr ⟨5, by omega, rfl⟩
  rw [if_neg c5]
  by_cases c6 : isW B M s 16 = true
  · rw [if_pos c6]; exact Or.inr ⟨6, by omega, rfl⟩
  rw [if_neg c6]
  by_cases c7 : isW B M s 6 = true
  · rw [if_pos c7]; exact Or.inr ⟨7, by omega, rfl⟩
  rw [if_neg c7]
  by_cases c8 : isW B M s 13 = true
  · rw [if_pos c8]; exact Or.inr ⟨8, by omega, rfl⟩
  rw [if_neg c8]
  exact Or.inl rfl
theorem kstep {α : Type} {x : Option Int32} {b : Bool} (e : x = some (nI (if b = true then 1 else 0))) (P Q : Option α) : o1 x (fun r => if r = 0 then P else Q) = if b = true then Q else P := by
  rw [e, z_o1]
  cases b
  · rfl
  · rfl
theorem CH.kind {B : Nat → Nat} {M s : Nat} {v : Vs} (h : CH B M s v) (hs : s ≤ M) : f_X5_kindOfWord v = some (kwI B M s) := by
  have e := fun i (hi : i ∈ WS) => x_isWord h.1 h.2.1 hs hi
  unfold f_X5_kindOfWord kwI
  rw [kstep (e 3 (by decide))]
  by_cases c0 : isW B M s 3 = true
  · rw [if_pos c0, if_pos c0]; rfl
  rw [if_neg c0, if_neg c0]
  rw [kstep (e 18 (by decide))]
  by_cases c1 : isW B M s 18 = true
  · rw [if_pos c1, if_pos c1]; rfl
  rw [if_neg c1, if_neg c1]
  rw [kstep (e 14 (by decide))]
  by_cases c2 : isW B M s 14 = true
  · rw [if_pos c2, if_pos c2]; rfl
  rw [if_neg c2, if_neg c2]
  rw [kstep (e 15 (by decide))]
  by_cases c3 : isW B M s 15 = true
  · rw [if_pos c3, if_pos c3]; rfl
  rw [if_neg c3, if_neg c3]
  rw [kstep (e 26 (by decide))]
  by_cases c4 : isW B M s 26 = true
  · rw [if_pos c4, if_pos c4]; rfl
  rw [if_neg c4, if_neg c4]
  rw [kstep (e 25 (by decide))]
  by_cases c5 : isW B M s 25 = true
  · rw [if_pos c5, if_pos c5]; rfl
  rw [if_neg c5, if_neg c5]
  rw [kstep (e 16 (by decide))]
  by_cases c6 : isW B M s 16 = true
  · rw [if_pos c6, if_pos c6]; rfl
  rw [if_neg c6, if_neg c6]
  rw [kstep (e 6 (by decide))]
  by_cases c7 : isW B M s 6 = true
  · rw [if_pos c7, if_pos c7]; rfl
  rw [if_neg c7, if_neg c7]
  rw [e 13 (by decide), z_o1, z_jn]
  by_cases c8 : isW B M s 13 = true
  · rw [if_pos c8, if_pos c8]; rfl
  · rw [if_neg c8, if_neg c8]; rfl
/-- below K, both numbers say the same -/
theorem nm_lt {B : Nat → Nat} {M s K : Nat} (hk : tkind B M s = 2) (hK : K ≤ 100000) : (nmC B s (tend B M s - s) < K ↔ nmR B s (tend B M s - s) < K) ∧ (nmR B s (tend B M s - s) < K → nmC B s (tend B M s - s) = nmR B s (tend B M s - s)) := by
  have te := (tk2 (B := B) (M := M) (s := s)).2 hk
  obtain ⟨a, b⟩ := nm_CR (B := B) (p := s) (tend B M s - s) (fun i h1 h2 => rn_in (c := isDg) (M := M) h1 (by have := rn_ge isDg B M s; omega))
  rw [a]
  by_cases c : nmR B s (tend B M s - s) < 100000
  · rw [if_pos c]
    exact ⟨Iff.rfl, fun _ => rfl⟩
  · rw [if_neg c]
    exact ⟨⟨fun h => by omega, fun h => by omega⟩, fun h => by omega⟩
