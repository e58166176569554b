/-! which wires hang on which -/
def dep (q : Nat → Int32) (y w : Nat) : Bool := decide (w = y) || (bel q w).testBit y
def depO (q : Nat → Int32) (y w : Nat) : Nat → Bool
  | 0 => decide (w = y)
  | k + 1 => depO q y w k || dep q y (op q w k)
theorem tb_pow (a b : Nat) : (2 ^ a).testBit b = decide (a = b) := by
  rw [Nat.testBit_two_pow]
theorem dep_at {q : Nat → Int32} (hw : WFc q) (y : Nat) {w : Nat} (h : w < NW q) : depO q y w (hv q w) = dep q y w := by
  by_cases hi : w < NI q
  · have e := (hw.2.2.2.2.1 w hi).2
    have e0 : hv q w = 0 := by show nn (q (32 + w)) = 0; rw [e]; rfl
    rw [e0]
    unfold dep
    rw [bel_in hi, Nat.zero_testBit, Bool.or_false]
    rfl
  · have gen : ∀ n, depO q y w n = (decide (w = y) || (orf (fun k => bel q (op q w k) ||| 2 ^ op q w k) n).testBit y) := by
      intro n
      induction n with
      | zero =>
        show decide (w = y) = (decide (w = y) || (0 : Nat).testBit y)
        rw [Nat.zero_testBit, Bool.or_false]
      | succ n ih =>
        show (depO q y w n || dep q y (op q w n)) = (decide (w = y) || (orf (fun k => bel q (op q w k) ||| 2 ^ op q w k) n ||| (bel q (op q w n) ||| 2 ^ op q w n)).testBit y)
        rw [ih, Nat.testBit_or, Nat.testBit_or, tb_pow]
        unfold dep
        cases decide (w = y) <;> cases (orf (fun k => bel q (op q w k) ||| 2 ^ op q w k) n).testBit y <;> cases (bel q (op q w n)).testBit y <;> cases decide (op q w n = y) <;> rfl
    rw [gen]
    unfold dep
    rw [bel_at hw hi h]
def b01 (b : Bool) : Int32 := nI (if b = true then 1 else 0)
theorem b01_nar (b : Bool) : vp_nar .boolean (b01 b) = b01 b := by cases b <;> decide
theorem b01_0 (b : Bool) : (b01 b = 0) = (b = false) := by cases b <;> decide
