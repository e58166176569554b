/-! complete: both go the same way -/
theorem z_p1 (n : Nat) : nI n + (1 : Int32) = nI (n + 1) := by rw [z_l1, nI_add]
