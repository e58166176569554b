/-! reading a bridge, on both sides -/
theorem kw_other {B : Nat → Nat} {M s : Nat} (h1 : ¬ isW B M s 3 = true) (h2 : ¬ isW B M s 18 = true) : ¬ kwI B M s = nI 0 ∧ ¬ kwI B M s = nI 1 := by
  unfold kwI
  rw [if_neg h1, if_neg h2]
  refine ⟨?_, ?_⟩
  · (repeat' split) <;> decide
  · (repeat' split) <;> decide
theorem JC.mono {B : Nat → Nat} {M : Nat} {v0 : Vs} {a b : Nat} {vT : Vs} {X X' : Option (Int32 × Vs × Vs)} {Y Y' : Option (Int32 × Vs)} (h : JC B M v0 b vT X Y) (hab : a ≤ b) (hX : X' = X) (hY : Y' = Y) : JC B M v0 a vT X' Y' := by
  subst hX hY
  rcases h with ⟨vD', vC', vM', q', a', e1, e2, x1, x2, x3, x4, x6, x5⟩ | h
  · exact Or.inl ⟨vD', vC', vM', q', a', e1, e2, x1, x2, x3, x4, x6, by omega⟩
  · exact Or.inr h
