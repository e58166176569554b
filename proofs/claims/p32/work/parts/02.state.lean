/-! What a state of the system is: modules (an object with its own arrays) and their values; contracts over modules; calls. -/
abbrev Gx : Type := va_G × ClassId × ClassId × ClassId × ClassId × (Nat → Nat) × (Nat → Nat) × (Nat → Nat) × ClassId × ClassId × Nat × (Nat → Int32)
abbrev tyL (g : Gx) : List (ClassId × FieldType) := [(g.2.1, .int), (g.2.2.1, .long), (g.2.2.2.1, .int), (g.2.2.2.2.1, .object "FaultTests$Setup"), (g.2.2.2.2.2.2.2.2.1, .byte), (g.2.2.2.2.2.2.2.2.2.1, .array .int)]
abbrev Vs : Type := (Nat → Int32) × (Nat → Nat → Int32) × (Nat → Nat → Int64)
def sF (v : Vs) (k : Nat) (x : Int32) : Vs := (upd v.1 k x, v.2)
def sI (v : Vs) (k i : Nat) (x : Int32) : Vs := (v.1, (fun j => if j = k then upd (v.2.1 k) i x else v.2.1 j), v.2.2)
def sA (v : Vs) (k : Nat) (f : Nat → Int32) : Vs := (v.1, (fun j => if j = k then f else v.2.1 j), v.2.2)
def sJ (v : Vs) (k i : Nat) (x : Int64) : Vs := (v.1, v.2.1, (fun j => if j = k then vp_updL (v.2.2 k) i x else v.2.2 j))
def fcC (b : Nat → Nat) (v : Vs) : List Value := [.int (v.1 0), .int (v.1 1), .int (v.1 2), .int (v.1 3), .ref (b 5), .ref (b 6), .ref (b 7), .ref (b 8), .ref (b 9), .ref (b 10), .ref (b 11), .ref (b 12), .ref (b 13), .ref (b 14)]
def cC (g : Gx) (b : Nat → Nat) (v : Vs) : va_W := [(b 0, .inr (0, fcC b v)), (b 5, .inl (g.2.1, 24, .inl (v.2.1 4))), (b 6, .inl (g.2.1, 24, .inl (v.2.1 5))), (b 7, .inl (g.2.1, 96, .inl (v.2.1 6))), (b 8, .inl (g.2.1, 24, .inl (v.2.1 7))), (b 9, .inl (g.2.1, 24, .inl (v.2.1 8))), (b 10, .inl (g.2.1, 24, .inl (v.2.1 9))), (b 11, .inl (g.2.1, 6, .inl (v.2.1 10))), (b 12, .inl (g.2.1, 8, .inl (v.2.1 11))), (b 13, .inl (g.2.1, 8, .inl (v.2.1 12))), (b 14, .inl (g.2.1, 8, .inl (v.2.1 13)))]
def fcT (b : Nat → Nat) (v : Vs) : List Value := [.int (v.1 0), .ref (b 2), .ref (b 3), .ref (b 4), .ref (b 5)]
def cT (g : Gx) (b : Nat → Nat) (v : Vs) : va_W := [(b 0, .inr (6, fcT b v)), (b 2, .inl (g.2.1, 16, .inl (v.2.1 1))), (b 3, .inl (g.2.1, 16, .inl (v.2.1 2))), (b 4, .inl (g.2.1, 6, .inl (v.2.1 3))), (b 5, .inl (g.2.1, 6, .inl (v.2.1 4)))]
def fcL (b : Nat → Nat) (v : Vs) : List Value := [.ref (b 1), .ref (b 2)]
def cL (g : Gx) (b : Nat → Nat) (v : Vs) : va_W := [(b 0, .inr (2, fcL b v)), (b 1, .inl (g.2.2.1, 24, .inr (.inl (v.2.2 0)))), (b 2, .inl (g.2.2.1, 24, .inr (.inl (v.2.2 1))))]
def fcR (b : Nat → Nat) (q0 q1 : Nat) (v : Vs) : List Value := [.ref q0, .ref q1, .ref (b 3), .ref (b 4), .int (v.1 4)]
def cR (g : Gx) (b : Nat → Nat) (n : Nat) (q0 q1 : Nat) (v : Vs) : va_W := [(b 0, .inr (3, fcR b q0 q1 v)), (b 3, .inl (g.2.2.1, n, .inr (.inl (v.2.2 2)))), (b 4, .inl (g.2.2.1, n, .inr (.inl (v.2.2 3))))]
def fcS (b : Nat → Nat) (q0 q1 : Nat) : List Value := [.ref q0, .ref q1]
def cS (g : Gx) (b : Nat → Nat) (q0 q1 : Nat) : va_W := [(b 0, .inr (4, fcS b q0 q1))]
def fcD (b : Nat → Nat) (q0 : Nat) (v : Vs) : List Value := [.ref q0, .int (v.1 1), .int (v.1 2), .ref (b 4), .int (v.1 4), .int (v.1 5), .int (v.1 6), .int (v.1 7), .int (v.1 8), .int (v.1 9)]
def cD (g : Gx) (b : Nat → Nat) (q0 : Nat) (v : Vs) : va_W := [(b 0, .inr (5, fcD b q0 v)), (b 4, .inl (g.2.1, 800, .inl (v.2.1 3)))]
def fcF (b : Nat → Nat) (q0 q1 q2 q3 q4 : Nat) (v : Vs) : List Value := [.ref q0, .ref q1, .ref q2, .ref q3, .ref q4, .int (v.1 5), .int (v.1 6), .ref (b 8), .ref (b 9), .ref (b 10), .ref (b 11), .ref (b 12)]
def cF (g : Gx) (b : Nat → Nat) (q0 q1 q2 q3 q4 : Nat) (v : Vs) : va_W := [(b 0, .inr (7, fcF b q0 q1 q2 q3 q4 v)), (b 8, .inl (g.2.1, 57, .inl (v.2.1 7))), (b 9, .inl (g.2.1, 729, .inl (v.2.1 8))), (b 10, .inl (g.2.2.1, 16, .inr (.inl (v.2.2 9)))), (b 11, .inl (g.2.2.1, 16, .inr (.inl (v.2.2 10)))), (b 12, .inl (g.2.2.1, 256, .inr (.inl (v.2.2 11))))]
/-! pure programs: guards, names, calls, joins, loops -/
def inb (i : Int32) (n : Nat) : Bool := !(decide (i < 0)) && decide (i.toNatClampNeg < n)
def isB (x : Int32) : Bool := decide (x = 0) || decide (x = 1)
def i2c (x : Int32) : Int32 := (x.toUInt32 % 65536).toInt32
def isY (x : Int32) : Bool := decide (x.toInt8.toInt32 = x)
def isC (x : Int32) : Bool := decide (x.toUInt32.toUInt16.toUInt32.toInt32 = x)
def dOK (r : UInt64) : Bool := decide (r &&& 0x7fffffffffffffff ≤ 0x7ff0000000000000)
def nz (x : Int32) : Bool := !(decide (x = 0))
def gd {α : Type} (c : Bool) (k : Option α) : Option α := match c with
  | true => k
  | false => none
theorem gd_at {α : Type} {c : Bool} {k : Option α} {r : α} (h : gd c k = some r) : c = true ∧ k = some r := by
  cases c with
  | true => exact ⟨rfl, h⟩
  | false => exact absurd h (by simp [gd])
theorem inb_in {i : Int32} {n : Nat} (h : inb i n = true) : vp_in i n := by
  simp only [inb, Bool.and_eq_true, Bool.not_eq_true', decide_eq_false_iff_not, decide_eq_true_eq] at h
  intro q
  rcases q with q | q
  · exact h.1 q
  · omega
theorem gd_in {α : Type} {i : Int32} {n : Nat} {k : Option α} {r : α} (h : gd (inb i n) k = some r) : vp_in i n ∧ k = some r := ⟨inb_in (gd_at h).1, (gd_at h).2⟩
theorem kp_2 {α β : Type} {a c : α} {b d : β} (h : some (a, b) = some (c, d)) : a = c ∧ b = d := Prod.mk.inj (Option.some.inj h)
theorem kp_3 {α β γ : Type} {a a1 : α} {b b1 : β} {c c1 : γ} (h : some (a, b, c) = some (a1, b1, c1)) : a = a1 ∧ b = b1 ∧ c = c1 := by cases h; exact ⟨rfl, rfl, rfl⟩
theorem kp_4 {α β γ δ : Type} {a a1 : α} {b b1 : β} {c c1 : γ} {d d1 : δ} (h : some (a, b, c, d) = some (a1, b1, c1, d1)) : a = a1 ∧ b = b1 ∧ c = c1 ∧ d = d1 := by cases h; exact ⟨rfl, rfl, rfl, rfl⟩
def ius (x y : Int32) : Int32 := (x.toUInt32 >>> (y.toUInt32 &&& Int32.toUInt32 31)).toInt32
def lus (x : Int64) (y : Int32) : Int64 := (x.toUInt64 >>> (y.toInt64.toUInt64 &&& Int64.toUInt64 63)).toInt64
theorem gd_nz {α : Type} {x : Int32} {k : Option α} {r : α} (h : gd (nz x) k = some r) : ¬ x = 0 ∧ k = some r := ⟨by have := (gd_at h).1; simpa [nz] using this, (gd_at h).2⟩
theorem gd_isB {α : Type} {x : Int32} {k : Option α} {r : α} (h : gd (isB x) k = some r) : (x = 0 ∨ x = 1) ∧ k = some r := ⟨by have := (gd_at h).1; simpa [isB] using this, (gd_at h).2⟩
def bn {α β : Type} (x : α) (k : α → β) : β := k x
theorem bn_at {α β : Type} {x : α} {k : α → β} {r : β} (h : bn x k = r) {y : α} (e : y = x) : k y = r := by rw [e]; exact h
def o1 {α β : Type} (x : Option α) (k : α → Option β) : Option β := match x with
  | none => none
  | some a => k a
def o2 {α β γ : Type} (x : Option (α × β)) (k : α → β → Option γ) : Option γ := match x with
  | none => none
  | some (a, b) => k a b
def o3 {α β γ δ : Type} (x : Option (α × β × γ)) (k : α → β → γ → Option δ) : Option δ := match x with
  | none => none
  | some (a, b, c) => k a b c
def o4 {α β γ δ ε : Type} (x : Option (α × β × γ × δ)) (k : α → β → γ → δ → Option ε) : Option ε := match x with
  | none => none
  | some (a, b, c, d) => k a b c d
theorem o1_at {α β : Type} {x : Option α} {k : α → Option β} {r : β} (h : o1 x k = some r) : ∃ a, x = some a ∧ k a = some r := by
  cases x with
  | none => cases h
  | some a => exact ⟨a, rfl, h⟩
theorem o2_at {α β γ : Type} {x : Option (α × β)} {k : α → β → Option γ} {r : γ} (h : o2 x k = some r) : ∃ a b, x = some (a, b) ∧ k a b = some r := by
  cases x with
  | none => cases h
  | some a => exact ⟨a.1, a.2, rfl, h⟩
theorem o3_at {α β γ δ : Type} {x : Option (α × β × γ)} {k : α → β → γ → Option δ} {r : δ} (h : o3 x k = some r) : ∃ a b c, x = some (a, b, c) ∧ k a b c = some r := by
  cases x with
  | none => cases h
  | some a => exact ⟨a.1, a.2.1, a.2.2, rfl, h⟩
theorem o4_at {α β γ δ ε : Type} {x : Option (α × β × γ × δ)} {k : α → β → γ → δ → Option ε} {r : ε} (h : o4 x k = some r) : ∃ a b c d, x = some (a, b, c, d) ∧ k a b c d = some r := by
  cases x with
  | none => cases h
  | some a => exact ⟨a.1, a.2.1, a.2.2.1, a.2.2.2, rfl, h⟩
def o5 {α0 α1 α2 α3 α4 δ : Type} (x : Option (α0 × α1 × α2 × α3 × α4)) (k : α0 → α1 → α2 → α3 → α4 → Option δ) : Option δ := match x with
  | none => none
  | some (a0, a1, a2, a3, a4) => k a0 a1 a2 a3 a4
theorem o5_at {α0 α1 α2 α3 α4 δ : Type} {x : Option (α0 × α1 × α2 × α3 × α4)} {k : α0 → α1 → α2 → α3 → α4 → Option δ} {r : δ} (h : o5 x k = some r) : ∃ a0 a1 a2 a3 a4, x = some (a0, a1, a2, a3, a4) ∧ k a0 a1 a2 a3 a4 = some r := by
  cases x with
  | none => cases h
  | some a =>
    obtain ⟨a0, a1, a2, a3, a4⟩ := a
    exact ⟨a0, a1, a2, a3, a4, rfl, h⟩
theorem kp_5 {α0 α1 α2 α3 α4 : Type} {a0 b0 : α0} {a1 b1 : α1} {a2 b2 : α2} {a3 b3 : α3} {a4 b4 : α4} (h : some (a0, a1, a2, a3, a4) = some (b0, b1, b2, b3, b4)) : a0 = b0 ∧ a1 = b1 ∧ a2 = b2 ∧ a3 = b3 ∧ a4 = b4 := by
  cases h
  exact ⟨rfl, rfl, rfl, rfl, rfl⟩
def o6 {α0 α1 α2 α3 α4 α5 δ : Type} (x : Option (α0 × α1 × α2 × α3 × α4 × α5)) (k : α0 → α1 → α2 → α3 → α4 → α5 → Option δ) : Option δ := match x with
  | none => none
  | some (a0, a1, a2, a3, a4, a5) => k a0 a1 a2 a3 a4 a5
theorem o6_at {α0 α1 α2 α3 α4 α5 δ : Type} {x : Option (α0 × α1 × α2 × α3 × α4 × α5)} {k : α0 → α1 → α2 → α3 → α4 → α5 → Option δ} {r : δ} (h : o6 x k = some r) : ∃ a0 a1 a2 a3 a4 a5, x = some (a0, a1, a2, a3, a4, a5) ∧ k a0 a1 a2 a3 a4 a5 = some r := by
  cases x with
  | none => cases h
  | some a =>
    obtain ⟨a0, a1, a2, a3, a4, a5⟩ := a
    exact ⟨a0, a1, a2, a3, a4, a5, rfl, h⟩
theorem kp_6 {α0 α1 α2 α3 α4 α5 : Type} {a0 b0 : α0} {a1 b1 : α1} {a2 b2 : α2} {a3 b3 : α3} {a4 b4 : α4} {a5 b5 : α5} (h : some (a0, a1, a2, a3, a4, a5) = some (b0, b1, b2, b3, b4, b5)) : a0 = b0 ∧ a1 = b1 ∧ a2 = b2 ∧ a3 = b3 ∧ a4 = b4 ∧ a5 = b5 := by
  cases h
  exact ⟨rfl, rfl, rfl, rfl, rfl, rfl⟩
def o7 {α0 α1 α2 α3 α4 α5 α6 δ : Type} (x : Option (α0 × α1 × α2 × α3 × α4 × α5 × α6)) (k : α0 → α1 → α2 → α3 → α4 → α5 → α6 → Option δ) : Option δ := match x with
  | none => none
  | some (a0, a1, a2, a3, a4, a5, a6) => k a0 a1 a2 a3 a4 a5 a6
theorem o7_at {α0 α1 α2 α3 α4 α5 α6 δ : Type} {x : Option (α0 × α1 × α2 × α3 × α4 × α5 × α6)} {k : α0 → α1 → α2 → α3 → α4 → α5 → α6 → Option δ} {r : δ} (h : o7 x k = some r) : ∃ a0 a1 a2 a3 a4 a5 a6, x = some (a0, a1, a2, a3, a4, a5, a6) ∧ k a0 a1 a2 a3 a4 a5 a6 = some r := by
  cases x with
  | none => cases h
  | some a =>
    obtain ⟨a0, a1, a2, a3, a4, a5, a6⟩ := a
    exact ⟨a0, a1, a2, a3, a4, a5, a6, rfl, h⟩
theorem kp_7 {α0 α1 α2 α3 α4 α5 α6 : Type} {a0 b0 : α0} {a1 b1 : α1} {a2 b2 : α2} {a3 b3 : α3} {a4 b4 : α4} {a5 b5 : α5} {a6 b6 : α6} (h : some (a0, a1, a2, a3, a4, a5, a6) = some (b0, b1, b2, b3, b4, b5, b6)) : a0 = b0 ∧ a1 = b1 ∧ a2 = b2 ∧ a3 = b3 ∧ a4 = b4 ∧ a5 = b5 ∧ a6 = b6 := by
  cases h
  exact ⟨rfl, rfl, rfl, rfl, rfl, rfl, rfl⟩
def o8 {α0 α1 α2 α3 α4 α5 α6 α7 δ : Type} (x : Option (α0 × α1 × α2 × α3 × α4 × α5 × α6 × α7)) (k : α0 → α1 → α2 → α3 → α4 → α5 → α6 → α7 → Option δ) : Option δ := match x with
  | none => none
  | some (a0, a1, a2, a3, a4, a5, a6, a7) => k a0 a1 a2 a3 a4 a5 a6 a7
theorem o8_at {α0 α1 α2 α3 α4 α5 α6 α7 δ : Type} {x : Option (α0 × α1 × α2 × α3 × α4 × α5 × α6 × α7)} {k : α0 → α1 → α2 → α3 → α4 → α5 → α6 → α7 → Option δ} {r : δ} (h : o8 x k = some r) : ∃ a0 a1 a2 a3 a4 a5 a6 a7, x = some (a0, a1, a2, a3, a4, a5, a6, a7) ∧ k a0 a1 a2 a3 a4 a5 a6 a7 = some r := by
  cases x with
  | none => cases h
  | some a =>
    obtain ⟨a0, a1, a2, a3, a4, a5, a6, a7⟩ := a
    exact ⟨a0, a1, a2, a3, a4, a5, a6, a7, rfl, h⟩
theorem kp_8 {α0 α1 α2 α3 α4 α5 α6 α7 : Type} {a0 b0 : α0} {a1 b1 : α1} {a2 b2 : α2} {a3 b3 : α3} {a4 b4 : α4} {a5 b5 : α5} {a6 b6 : α6} {a7 b7 : α7} (h : some (a0, a1, a2, a3, a4, a5, a6, a7) = some (b0, b1, b2, b3, b4, b5, b6, b7)) : a0 = b0 ∧ a1 = b1 ∧ a2 = b2 ∧ a3 = b3 ∧ a4 = b4 ∧ a5 = b5 ∧ a6 = b6 ∧ a7 = b7 := by
  cases h
  exact ⟨rfl, rfl, rfl, rfl, rfl, rfl, rfl, rfl⟩
def o9 {α0 α1 α2 α3 α4 α5 α6 α7 α8 δ : Type} (x : Option (α0 × α1 × α2 × α3 × α4 × α5 × α6 × α7 × α8)) (k : α0 → α1 → α2 → α3 → α4 → α5 → α6 → α7 → α8 → Option δ) : Option δ := match x with
  | none => none
  | some (a0, a1, a2, a3, a4, a5, a6, a7, a8) => k a0 a1 a2 a3 a4 a5 a6 a7 a8
theorem o9_at {α0 α1 α2 α3 α4 α5 α6 α7 α8 δ : Type} {x : Option (α0 × α1 × α2 × α3 × α4 × α5 × α6 × α7 × α8)} {k : α0 → α1 → α2 → α3 → α4 → α5 → α6 → α7 → α8 → Option δ} {r : δ} (h : o9 x k = some r) : ∃ a0 a1 a2 a3 a4 a5 a6 a7 a8, x = some (a0, a1, a2, a3, a4, a5, a6, a7, a8) ∧ k a0 a1 a2 a3 a4 a5 a6 a7 a8 = some r := by
  cases x with
  | none => cases h
  | some a =>
    obtain ⟨a0, a1, a2, a3, a4, a5, a6, a7, a8⟩ := a
    exact ⟨a0, a1, a2, a3, a4, a5, a6, a7, a8, rfl, h⟩
theorem kp_9 {α0 α1 α2 α3 α4 α5 α6 α7 α8 : Type} {a0 b0 : α0} {a1 b1 : α1} {a2 b2 : α2} {a3 b3 : α3} {a4 b4 : α4} {a5 b5 : α5} {a6 b6 : α6} {a7 b7 : α7} {a8 b8 : α8} (h : some (a0, a1, a2, a3, a4, a5, a6, a7, a8) = some (b0, b1, b2, b3, b4, b5, b6, b7, b8)) : a0 = b0 ∧ a1 = b1 ∧ a2 = b2 ∧ a3 = b3 ∧ a4 = b4 ∧ a5 = b5 ∧ a6 = b6 ∧ a7 = b7 ∧ a8 = b8 := by
  cases h
  exact ⟨rfl, rfl, rfl, rfl, rfl, rfl, rfl, rfl, rfl⟩
def o10 {α0 α1 α2 α3 α4 α5 α6 α7 α8 α9 δ : Type} (x : Option (α0 × α1 × α2 × α3 × α4 × α5 × α6 × α7 × α8 × α9)) (k : α0 → α1 → α2 → α3 → α4 → α5 → α6 → α7 → α8 → α9 → Option δ) : Option δ := match x with
  | none => none
  | some (a0, a1, a2, a3, a4, a5, a6, a7, a8, a9) => k a0 a1 a2 a3 a4 a5 a6 a7 a8 a9
theorem o10_at {α0 α1 α2 α3 α4 α5 α6 α7 α8 α9 δ : Type} {x : Option (α0 × α1 × α2 × α3 × α4 × α5 × α6 × α7 × α8 × α9)} {k : α0 → α1 → α2 → α3 → α4 → α5 → α6 → α7 → α8 → α9 → Option δ} {r : δ} (h : o10 x k = some r) : ∃ a0 a1 a2 a3 a4 a5 a6 a7 a8 a9, x = some (a0, a1, a2, a3, a4, a5, a6, a7, a8, a9) ∧ k a0 a1 a2 a3 a4 a5 a6 a7 a8 a9 = some r := by
  cases x with
  | none => cases h
  | some a =>
    obtain ⟨a0, a1, a2, a3, a4, a5, a6, a7, a8, a9⟩ := a
    exact ⟨a0, a1, a2, a3, a4, a5, a6, a7, a8, a9, rfl, h⟩
theorem kp_10 {α0 α1 α2 α3 α4 α5 α6 α7 α8 α9 : Type} {a0 b0 : α0} {a1 b1 : α1} {a2 b2 : α2} {a3 b3 : α3} {a4 b4 : α4} {a5 b5 : α5} {a6 b6 : α6} {a7 b7 : α7} {a8 b8 : α8} {a9 b9 : α9} (h : some (a0, a1, a2, a3, a4, a5, a6, a7, a8, a9) = some (b0, b1, b2, b3, b4, b5, b6, b7, b8, b9)) : a0 = b0 ∧ a1 = b1 ∧ a2 = b2 ∧ a3 = b3 ∧ a4 = b4 ∧ a5 = b5 ∧ a6 = b6 ∧ a7 = b7 ∧ a8 = b8 ∧ a9 = b9 := by
  cases h
  exact ⟨rfl, rfl, rfl, rfl, rfl, rfl, rfl, rfl, rfl, rfl⟩
def o11 {α0 α1 α2 α3 α4 α5 α6 α7 α8 α9 α10 δ : Type} (x : Option (α0 × α1 × α2 × α3 × α4 × α5 × α6 × α7 × α8 × α9 × α10)) (k : α0 → α1 → α2 → α3 → α4 → α5 → α6 → α7 → α8 → α9 → α10 → Option δ) : Option δ := match x with
  | none => none
  | some (a0, a1, a2, a3, a4, a5, a6, a7, a8, a9, a10) => k a0 a1 a2 a3 a4 a5 a6 a7 a8 a9 a10
theorem o11_at {α0 α1 α2 α3 α4 α5 α6 α7 α8 α9 α10 δ : Type} {x : Option (α0 × α1 × α2 × α3 × α4 × α5 × α6 × α7 × α8 × α9 × α10)} {k : α0 → α1 → α2 → α3 → α4 → α5 → α6 → α7 → α8 → α9 → α10 → Option δ} {r : δ} (h : o11 x k = some r) : ∃ a0 a1 a2 a3 a4 a5 a6 a7 a8 a9 a10, x = some (a0, a1, a2, a3, a4, a5, a6, a7, a8, a9, a10) ∧ k a0 a1 a2 a3 a4 a5 a6 a7 a8 a9 a10 = some r := by
  cases x with
  | none => cases h
  | some a =>
    obtain ⟨a0, a1, a2, a3, a4, a5, a6, a7, a8, a9, a10⟩ := a
    exact ⟨a0, a1, a2, a3, a4, a5, a6, a7, a8, a9, a10, rfl, h⟩
theorem kp_11 {α0 α1 α2 α3 α4 α5 α6 α7 α8 α9 α10 : Type} {a0 b0 : α0} {a1 b1 : α1} {a2 b2 : α2} {a3 b3 : α3} {a4 b4 : α4} {a5 b5 : α5} {a6 b6 : α6} {a7 b7 : α7} {a8 b8 : α8} {a9 b9 : α9} {a10 b10 : α10} (h : some (a0, a1, a2, a3, a4, a5, a6, a7, a8, a9, a10) = some (b0, b1, b2, b3, b4, b5, b6, b7, b8, b9, b10)) : a0 = b0 ∧ a1 = b1 ∧ a2 = b2 ∧ a3 = b3 ∧ a4 = b4 ∧ a5 = b5 ∧ a6 = b6 ∧ a7 = b7 ∧ a8 = b8 ∧ a9 = b9 ∧ a10 = b10 := by
  cases h
  exact ⟨rfl, rfl, rfl, rfl, rfl, rfl, rfl, rfl, rfl, rfl, rfl⟩
def o12 {α0 α1 α2 α3 α4 α5 α6 α7 α8 α9 α10 α11 δ : Type} (x : Option (α0 × α1 × α2 × α3 × α4 × α5 × α6 × α7 × α8 × α9 × α10 × α11)) (k : α0 → α1 → α2 → α3 → α4 → α5 → α6 → α7 → α8 → α9 → α10 → α11 → Option δ) : Option δ := match x with
  | none => none
  | some (a0, a1, a2, a3, a4, a5, a6, a7, a8, a9, a10, a11) => k a0 a1 a2 a3 a4 a5 a6 a7 a8 a9 a10 a11
theorem o12_at {α0 α1 α2 α3 α4 α5 α6 α7 α8 α9 α10 α11 δ : Type} {x : Option (α0 × α1 × α2 × α3 × α4 × α5 × α6 × α7 × α8 × α9 × α10 × α11)} {k : α0 → α1 → α2 → α3 → α4 → α5 → α6 → α7 → α8 → α9 → α10 → α11 → Option δ} {r : δ} (h : o12 x k = some r) : ∃ a0 a1 a2 a3 a4 a5 a6 a7 a8 a9 a10 a11, x = some (a0, a1, a2, a3, a4, a5, a6, a7, a8, a9, a10, a11) ∧ k a0 a1 a2 a3 a4 a5 a6 a7 a8 a9 a10 a11 = some r := by
  cases x with
  | none => cases h
  | some a =>
    obtain ⟨a0, a1, a2, a3, a4, a5, a6, a7, a8, a9, a10, a11⟩ := a
    exact ⟨a0, a1, a2, a3, a4, a5, a6, a7, a8, a9, a10, a11, rfl, h⟩
theorem kp_12 {α0 α1 α2 α3 α4 α5 α6 α7 α8 α9 α10 α11 : Type} {a0 b0 : α0} {a1 b1 : α1} {a2 b2 : α2} {a3 b3 : α3} {a4 b4 : α4} {a5 b5 : α5} {a6 b6 : α6} {a7 b7 : α7} {a8 b8 : α8} {a9 b9 : α9} {a10 b10 : α10} {a11 b11 : α11} (h : some (a0, a1, a2, a3, a4, a5, a6, a7, a8, a9, a10, a11) = some (b0, b1, b2, b3, b4, b5, b6, b7, b8, b9, b10, b11)) : a0 = b0 ∧ a1 = b1 ∧ a2 = b2 ∧ a3 = b3 ∧ a4 = b4 ∧ a5 = b5 ∧ a6 = b6 ∧ a7 = b7 ∧ a8 = b8 ∧ a9 = b9 ∧ a10 = b10 ∧ a11 = b11 := by
  cases h
  exact ⟨rfl, rfl, rfl, rfl, rfl, rfl, rfl, rfl, rfl, rfl, rfl, rfl⟩
def o13 {α0 α1 α2 α3 α4 α5 α6 α7 α8 α9 α10 α11 α12 δ : Type} (x : Option (α0 × α1 × α2 × α3 × α4 × α5 × α6 × α7 × α8 × α9 × α10 × α11 × α12)) (k : α0 → α1 → α2 → α3 → α4 → α5 → α6 → α7 → α8 → α9 → α10 → α11 → α12 → Option δ) : Option δ := match x with
  | none => none
  | some (a0, a1, a2, a3, a4, a5, a6, a7, a8, a9, a10, a11, a12) => k a0 a1 a2 a3 a4 a5 a6 a7 a8 a9 a10 a11 a12
theorem o13_at {α0 α1 α2 α3 α4 α5 α6 α7 α8 α9 α10 α11 α12 δ : Type} {x : Option (α0 × α1 × α2 × α3 × α4 × α5 × α6 × α7 × α8 × α9 × α10 × α11 × α12)} {k : α0 → α1 → α2 → α3 → α4 → α5 → α6 → α7 → α8 → α9 → α10 → α11 → α12 → Option δ} {r : δ} (h : o13 x k = some r) : ∃ a0 a1 a2 a3 a4 a5 a6 a7 a8 a9 a10 a11 a12, x = some (a0, a1, a2, a3, a4, a5, a6, a7, a8, a9, a10, a11, a12) ∧ k a0 a1 a2 a3 a4 a5 a6 a7 a8 a9 a10 a11 a12 = some r := by
  cases x with
  | none => cases h
  | some a =>
    obtain ⟨a0, a1, a2, a3, a4, a5, a6, a7, a8, a9, a10, a11, a12⟩ := a
    exact ⟨a0, a1, a2, a3, a4, a5, a6, a7, a8, a9, a10, a11, a12, rfl, h⟩
theorem kp_13 {α0 α1 α2 α3 α4 α5 α6 α7 α8 α9 α10 α11 α12 : Type} {a0 b0 : α0} {a1 b1 : α1} {a2 b2 : α2} {a3 b3 : α3} {a4 b4 : α4} {a5 b5 : α5} {a6 b6 : α6} {a7 b7 : α7} {a8 b8 : α8} {a9 b9 : α9} {a10 b10 : α10} {a11 b11 : α11} {a12 b12 : α12} (h : some (a0, a1, a2, a3, a4, a5, a6, a7, a8, a9, a10, a11, a12) = some (b0, b1, b2, b3, b4, b5, b6, b7, b8, b9, b10, b11, b12)) : a0 = b0 ∧ a1 = b1 ∧ a2 = b2 ∧ a3 = b3 ∧ a4 = b4 ∧ a5 = b5 ∧ a6 = b6 ∧ a7 = b7 ∧ a8 = b8 ∧ a9 = b9 ∧ a10 = b10 ∧ a11 = b11 ∧ a12 = b12 := by
  cases h
  exact ⟨rfl, rfl, rfl, rfl, rfl, rfl, rfl, rfl, rfl, rfl, rfl, rfl, rfl⟩
def o14 {α0 α1 α2 α3 α4 α5 α6 α7 α8 α9 α10 α11 α12 α13 δ : Type} (x : Option (α0 × α1 × α2 × α3 × α4 × α5 × α6 × α7 × α8 × α9 × α10 × α11 × α12 × α13)) (k : α0 → α1 → α2 → α3 → α4 → α5 → α6 → α7 → α8 → α9 → α10 → α11 → α12 → α13 → Option δ) : Option δ := match x with
  | none => none
  | some (a0, a1, a2, a3, a4, a5, a6, a7, a8, a9, a10, a11, a12, a13) => k a0 a1 a2 a3 a4 a5 a6 a7 a8 a9 a10 a11 a12 a13
theorem o14_at {α0 α1 α2 α3 α4 α5 α6 α7 α8 α9 α10 α11 α12 α13 δ : Type} {x : Option (α0 × α1 × α2 × α3 × α4 × α5 × α6 × α7 × α8 × α9 × α10 × α11 × α12 × α13)} {k : α0 → α1 → α2 → α3 → α4 → α5 → α6 → α7 → α8 → α9 → α10 → α11 → α12 → α13 → Option δ} {r : δ} (h : o14 x k = some r) : ∃ a0 a1 a2 a3 a4 a5 a6 a7 a8 a9 a10 a11 a12 a13, x = some (a0, a1, a2, a3, a4, a5, a6, a7, a8, a9, a10, a11, a12, a13) ∧ k a0 a1 a2 a3 a4 a5 a6 a7 a8 a9 a10 a11 a12 a13 = some r := by
  cases x with
  | none => cases h
  | some a =>
    obtain ⟨a0, a1, a2, a3, a4, a5, a6, a7, a8, a9, a10, a11, a12, a13⟩ := a
    exact ⟨a0, a1, a2, a3, a4, a5, a6, a7, a8, a9, a10, a11, a12, a13, rfl, h⟩
theorem kp_14 {α0 α1 α2 α3 α4 α5 α6 α7 α8 α9 α10 α11 α12 α13 : Type} {a0 b0 : α0} {a1 b1 : α1} {a2 b2 : α2} {a3 b3 : α3} {a4 b4 : α4} {a5 b5 : α5} {a6 b6 : α6} {a7 b7 : α7} {a8 b8 : α8} {a9 b9 : α9} {a10 b10 : α10} {a11 b11 : α11} {a12 b12 : α12} {a13 b13 : α13} (h : some (a0, a1, a2, a3, a4, a5, a6, a7, a8, a9, a10, a11, a12, a13) = some (b0, b1, b2, b3, b4, b5, b6, b7, b8, b9, b10, b11, b12, b13)) : a0 = b0 ∧ a1 = b1 ∧ a2 = b2 ∧ a3 = b3 ∧ a4 = b4 ∧ a5 = b5 ∧ a6 = b6 ∧ a7 = b7 ∧ a8 = b8 ∧ a9 = b9 ∧ a10 = b10 ∧ a11 = b11 ∧ a12 = b12 ∧ a13 = b13 := by
  cases h
  exact ⟨rfl, rfl, rfl, rfl, rfl, rfl, rfl, rfl, rfl, rfl, rfl, rfl, rfl, rfl⟩
def jn {T β : Type} (K : T) (B : T → β) : β := B K
theorem jn_at {T β : Type} {K : T} {B : T → Option β} {r : β} (h : jn K B = some r) : ∃ k, k = K ∧ B k = some r := ⟨K, rfl, h⟩
def lp {T : Type} (body : T → T) (bot : T) : Nat → T
  | 0 => bot
  | n + 1 => body (lp body bot n)
def FU : Nat := 1000000
theorem lp_ind {T : Type} {body : T → T} {bot : T} (P : T → Prop) (h0 : P bot) (hs : ∀ f, P f → P (body f)) (n : Nat) : P (lp body bot n) := by
  induction n with
  | zero => exact h0
  | succ n ih => exact hs _ ih
theorem it_t {α : Type} {c : Prop} [Decidable c] {a b r : α} (h : (if c then a else b) = r) (hc : c) : a = r := by rw [if_pos hc] at h; exact h
theorem it_f {α : Type} {c : Prop} [Decidable c] {a b r : α} (h : (if c then a else b) = r) (hc : ¬ c) : b = r := by rw [if_neg hc] at h; exact h

/-! what lies outside: String constants, static arrays, nest mates -/
abbrev adK (g : Gx) : Nat → Nat := g.2.2.2.2.2.1
abbrev adV (g : Gx) : Nat → Nat := g.2.2.2.2.2.2.1
abbrev adS (g : Gx) : Nat → Nat := g.2.2.2.2.2.2.2.1
abbrev gBy (g : Gx) : ClassId := g.2.2.2.2.2.2.2.2.1
abbrev gAr (g : Gx) : ClassId := g.2.2.2.2.2.2.2.2.2.1
abbrev scL (g : Gx) : Nat := g.2.2.2.2.2.2.2.2.2.2.1
abbrev scX (g : Gx) : Nat → Int32 := g.2.2.2.2.2.2.2.2.2.2.2
def lenS : List Nat := [5, 8, 1, 3, 6, 7, 3, 7, 8, 5, 4, 5, 6, 3, 4, 3, 3, 16, 2, 6, 7, 4, 4, 4, 1, 4, 3]
def bytS : List (List Int32) := [[32, 48, 32, 49, 59], [49, 54, 32, 116, 101, 115, 116, 115], [59], [97, 110, 100], [98, 114, 105, 100, 103, 101], [98, 114, 105, 100, 103, 101, 32], [98, 117, 102], [99, 105, 114, 99, 117, 105, 116], [99, 105, 114, 99, 117, 105, 116, 32], [102, 97, 117, 108, 116], [103, 97, 116, 101], [103, 97, 116, 101, 32], [108, 101, 110, 103, 116, 104], [109, 117, 120], [110, 97, 110, 100], [110, 111, 114], [110, 111, 116], [111, 110, 101, 115, 32, 111, 114, 32, 117, 110, 107, 110, 111, 119, 110, 115], [111, 114], [111, 117, 116, 112, 117, 116], [111, 117, 116, 112, 117, 116, 32], [116, 101, 115, 116], [119, 104, 97, 116], [119, 105, 114, 101], [120], [120, 110, 111, 114], [120, 111, 114]]
def stT : List (String × Nat × String × Nat) := [("FaultTests", 75, "length", 12), ("FaultTests", 147, "what", 22), ("FaultTests", 241, "ones or unknowns", 17), ("FaultTests", 245, "16 tests", 1), ("FaultTests", 309, "wire", 23), ("FaultTests", 310, "test", 21), ("FaultTests", 312, "fault", 9), ("FaultTests$SetupReader", 67, "circuit", 7), ("FaultTests$SetupReader", 80, "gate", 10), ("FaultTests$SetupReader", 85, "output", 19), ("FaultTests$SetupReader", 90, "bridge", 4), ("FaultTests$SetupReader", 95, "test", 21), ("FaultTests$SetupReader", 166, "x", 24), ("FaultTests$SetupReader", 172, "and", 3), ("FaultTests$SetupReader", 174, "or", 18), ("FaultTests$SetupReader", 176, "nand", 14), ("FaultTests$SetupReader", 178, "nor", 15), ("FaultTests$SetupReader", 180, "xor", 26), ("FaultTests$SetupReader", 182, "xnor", 25), ("FaultTests$SetupReader", 184, "not", 16), ("FaultTests$SetupReader", 186, "buf", 6), ("FaultTests$SetupReader", 188, "mux", 13), ("FaultTestsLaw", 78, "circuit ", 8), ("FaultTestsLaw", 86, ";", 2), ("FaultTestsLaw", 103, "gate ", 11), ("FaultTestsLaw", 115, "output ", 20), ("FaultTestsLaw", 123, "bridge ", 5), ("FaultTestsLaw", 125, " 0 1;", 0), ("FaultTestsLaw", 162, "and", 3), ("FaultTestsLaw", 164, "or", 18), ("FaultTestsLaw", 166, "nand", 14), ("FaultTestsLaw", 168, "nor", 15), ("FaultTestsLaw", 170, "xor", 26), ("FaultTestsLaw", 172, "xnor", 25), ("FaultTestsLaw", 174, "not", 16), ("FaultTestsLaw", 176, "buf", 6), ("FaultTestsLaw", 178, "mux", 13)]
def lanesJ : Nat → Int64 := fun j => ([-6148914691236517206, -3689348814741910324, -1085102592571150096, -71777214294589696, -281470681808896, -4294967296] : List Int64).getD j 0
def fewI : Nat → Int32 := fun j => ([2, 2, 2, 2, 2, 2, 1, 1, 3] : List Int32).getD j 0
def mostI : Nat → Int32 := fun j => ([4, 4, 4, 4, 4, 4, 1, 1, 3] : List Int32).getD j 0
def digI : Nat → Int32 := fun j => ([48, 49, 50, 51, 52, 53, 54, 55, 56, 57, 48, 49, 50, 51, 52, 53, 54, 55, 56, 57, 48, 49, 50, 51, 52, 53, 54, 55, 56, 57, 48, 49, 50, 51, 52, 53, 54, 55, 56, 57, 48, 49, 50, 51, 52, 53, 54, 55, 56, 57, 48, 49, 50, 51, 52, 53, 54, 55, 56, 57, 48, 49, 50, 51, 52, 53, 54, 55, 56, 57, 48, 49, 50, 51, 52, 53, 54, 55, 56, 57, 48, 49, 50, 51, 52, 53, 54, 55, 56, 57, 48, 49, 50, 51, 52, 53, 54, 55, 56, 57] : List Int32).getD j 0
/-- the names of the kinds, by the texts' numbers -/
def nmS : Nat → Nat := fun j => ([3, 18, 14, 15, 26, 25, 16, 6, 13] : List Nat).getD j 0
def nfT : List (String × Nat × String × String × String × String) := [("FaultTests$Lanes", 22, "FaultTests", "LANES_WITH_BIT", "[J", "FaultTests"), ("FaultTestsLaw", 95, "FaultTestsLaw$Model", "kind", "[I", "FaultTestsLaw"), ("FaultTestsLaw", 99, "FaultTestsLaw$Model", "operands", "[[I", "FaultTestsLaw"), ("FaultTestsLaw", 112, "FaultTestsLaw$Model", "outputs", "[I", "FaultTestsLaw"), ("FaultTestsLaw", 117, "FaultTestsLaw$Model", "bridgeKind", "I", "FaultTestsLaw"), ("FaultTestsLaw", 43, "FaultTestsLaw$Model", "bridgeOne", "I", "FaultTestsLaw"), ("FaultTestsLaw", 120, "FaultTestsLaw$Model", "bridgeOther", "I", "FaultTestsLaw"), ("FaultTests$SetupReader", 115, "FaultTests", "MOST_OPERANDS", "[I", "FaultTests"), ("FaultTests$SetupReader", 124, "FaultTests", "FEWEST_OPERANDS", "[I", "FaultTests")]
def nmT : List (String × Nat × MethodName × String) := [("FaultTests", 11, yX5_init, "FaultTests"), ("FaultTests$SetupReader", 11, yX4_init, "FaultTests"), ("FaultTests$Setup", 18, yX6_init, "FaultTests"), ("FaultTests", 18, yX4_init, "FaultTests"), ("FaultTests$History", 24, yX4_init, "FaultTests"), ("FaultTests$Rows", 11, yX2_init, "FaultTests"), ("FaultTestsLaw$Model", 39, yL_sets, "FaultTestsLaw"), ("FaultTests$Lanes", 18, yX7_hasLane, "FaultTests")]
def va_AA (U : State) : Prop := (Cond.arrayOver (.array .int)).before #[] U = true
theorem va_AA.moved {u U : State} (hvm : u.vm.Alike U.vm) (h : va_AA u) : va_AA U := by
  have e := Cond.arrayOver_setVmC (args := #[]) hvm (.array .int)
  show (Cond.arrayOver (.array .int)).before #[] (u.setVm U.vm) = true
  rw [e]
  exact h
/-- what the tables say and a run keeps -/
def BV (g : Gx) (U : State) : Prop :=
  (∀ q ∈ stT, vk_R q.1 q.2.1 q.2.2.1 (adK g q.2.2.2) U) ∧
  (∀ q ∈ nfT, va_Nw (.fieldLinkNest q.1 q.2.1 q.2.2.1 q.2.2.2.1 q.2.2.2.2.1 q.2.2.2.2.2) U) ∧
  (∀ q ∈ nmT, va_Nw (.methodLinkNest q.1 q.2.1 q.2.2.1 q.2.2.2) U) ∧ va_AO "FaultTests$Setup" U ∧ va_Nw (.castable "[B" "java/lang/Cloneable") U ∧ va_AA U
theorem BV.warm {g : Gx} {s U : State} (hW : s.WarmedH U.vm) (h : BV g s) : BV g U :=
  ⟨fun q hq => vk_R.warm hW (h.1 q hq), fun q hq => va_Nw.warmF hW (h.2.1 q hq), fun q hq => va_Nw.warmM hW (h.2.2.1 q hq), va_AO.moved hW.alike h.2.2.2.1, va_Nw.warmC hW h.2.2.2.2.1, va_AA.moved hW.alike h.2.2.2.2.2⟩
theorem BV.same {g : Gx} {u U : State} (hv : U.vm = u.vm) (h : BV g u) : BV g U :=
  ⟨fun q hq => vk_R.same hv (h.1 q hq), fun q hq => va_Nw.same rfl hv.symm (h.2.1 q hq), fun q hq => va_Nw.same rfl hv.symm (h.2.2.1 q hq), va_AO.moved (by rw [hv]; exact Vm.Alike.refl _) h.2.2.2.1, va_Nw.same rfl hv.symm h.2.2.2.2.1, va_AA.moved (by rw [hv]; exact Vm.Alike.refl _) h.2.2.2.2.2⟩
def BG (g : Gx) (A : Nat → Prop) (U : State) (H : Heap) : Prop :=
  BV g U ∧ ((va_Z "FaultTestsLaw" "NAMES" "[Ljava/lang/String;" (.ref (adS g 3)) A U H ∧ va_T (.object "java/lang/String") (adS g 3) 9 (fun j => .ref (adK g (nmS j))) A U H) ∧ (va_Z "java/lang/Integer" "DigitOnes" "[B" (.ref (adS g 4)) A U H ∧ va_T .byte (adS g 4) 100 (fun j => .int (digI j)) A U H) ∧ va_T .int (adS g 5) (scL g) (fun j => .int (scX g j)) A U H) ∧
  vk_S 27 lenS bytS (adK g) (adV g) A U H ∧
  (va_Z "java/lang/String" "COMPACT_STRINGS" "Z" (.int 1) A U H ∧ va_Zq "jdk/internal/util/Preconditions" "SIOOBE_FORMATTER" "Ljava/util/function/BiFunction;" A U H) ∧
  (va_Z "FaultTests" "LANES_WITH_BIT" "[J" (.ref (adS g 0)) A U H ∧ va_T .long (adS g 0) 6 (fun j => .long (lanesJ j)) A U H) ∧
  (va_Z "FaultTests" "FEWEST_OPERANDS" "[I" (.ref (adS g 1)) A U H ∧ va_T .int (adS g 1) 9 (fun j => .int (fewI j)) A U H) ∧
  (va_Z "FaultTests" "MOST_OPERANDS" "[I" (.ref (adS g 2)) A U H ∧ va_T .int (adS g 2) 9 (fun j => .int (mostI j)) A U H)
theorem BG.kept {g : Gx} {A : Nat → Prop} {U : State} {H H1 : Heap} (h : BG g A U H) (hq : ∀ a : Nat, a < H.size → ¬ A a → H1[a]? = H[a]?) : BG g A U H1 := by
  obtain ⟨v, ⟨⟨a1, a2⟩, ⟨a3, a4⟩, a5⟩, b1, ⟨c1, c2⟩, ⟨d1, d2⟩, ⟨e1, e2⟩, ⟨f1, f2⟩⟩ := h
  exact ⟨v, ⟨⟨a1.kept hq, a2.kept hq⟩, ⟨a3.kept hq, a4.kept hq⟩, a5.kept hq⟩, b1.kept hq, ⟨c1.kept hq, c2.kept hq⟩, ⟨d1.kept hq, d2.kept hq⟩, ⟨e1.kept hq, e2.kept hq⟩, ⟨f1.kept hq, f2.kept hq⟩⟩
theorem BG.narrow {g : Gx} {A B : Nat → Prop} {U : State} {H : Heap} (h : BG g A U H) (hq : ∀ q, B q → A q) : BG g B U H := by
  obtain ⟨v, ⟨⟨a1, a2⟩, ⟨a3, a4⟩, a5⟩, b1, ⟨c1, c2⟩, ⟨d1, d2⟩, ⟨e1, e2⟩, ⟨f1, f2⟩⟩ := h
  exact ⟨v, ⟨⟨a1.narrow hq, a2.narrow hq⟩, ⟨a3.narrow hq, a4.narrow hq⟩, a5.narrow hq⟩, b1.narrow hq, ⟨c1.narrow hq, c2.narrow hq⟩, ⟨d1.narrow hq, d2.narrow hq⟩, ⟨e1.narrow hq, e2.narrow hq⟩, ⟨f1.narrow hq, f2.narrow hq⟩⟩
theorem BG.moved {g : Gx} {A : Nat → Prop} {u U : State} {H : Heap} (hv : u.vm.Alike U.vm) (hr : BV g U) (h : BG g A u H) : BG g A U H := by
  obtain ⟨v, ⟨⟨a1, a2⟩, ⟨a3, a4⟩, a5⟩, b1, ⟨c1, c2⟩, ⟨d1, d2⟩, ⟨e1, e2⟩, ⟨f1, f2⟩⟩ := h
  exact ⟨hr, ⟨⟨va_Z.moved hv a1, va_T.moved hv a2⟩, ⟨va_Z.moved hv a3, va_T.moved hv a4⟩, va_T.moved hv a5⟩, vk_S.moved hv b1, ⟨va_Z.moved hv c1, va_Zq.moved hv c2⟩, ⟨va_Z.moved hv d1, va_T.moved hv d2⟩, ⟨va_Z.moved hv e1, va_T.moved hv e2⟩, ⟨va_Z.moved hv f1, va_T.moved hv f2⟩⟩
theorem BG.warm {g : Gx} {A : Nat → Prop} {s U : State} {H : Heap} (hW : s.WarmedH U.vm) (h : BG g A s H) : BG g A U H := BG.moved hW.alike (h.1.warm hW) h
theorem BG.same {g : Gx} {A : Nat → Prop} {u U : State} {H : Heap} (hv : U.vm = u.vm) (h : BG g A u H) : BG g A U H := BG.moved (by rw [hv]; exact Vm.Alike.refl _) (h.1.same hv) h
/-! contracts: the answer and the new values are known from the pure program -/
def wB (g : Gx) (ws : va_W) (sz : Nat) : State → Prop := fun U => U.heap.size = sz ∧ va_P g.1 vwCl ws U.heap ∧ va_K g.1 vwCl (tyL g) U ∧ va_D (fun _ => True) ws ∧ BG g (va_A ws sz) U U.heap
def wE (g : Gx) (A : Nat → Prop) (ws : va_W) : State → Prop := fun t => va_P g.1 vwCl ws t.heap ∧ va_K g.1 vwCl (tyL g) t ∧ va_D A ws
abbrev qI (g : Gx) (A : Nat → Prop) (w1 : va_W) (r : Int32) : Array Value → State → Outcome → State → Prop := va_Qi (fun (r0 : Int32) (_ : Unit) => r0 = r) (fun _ => wE g A w1) A
abbrev qJ (g : Gx) (A : Nat → Prop) (w1 : va_W) (r : Int64) : Array Value → State → Outcome → State → Prop := va_Ql (fun (r0 : Int64) (_ : Unit) => r0 = r) (fun _ => wE g A w1) A
abbrev qD (g : Gx) (A : Nat → Prop) (w1 : va_W) (r : UInt64) : Array Value → State → Outcome → State → Prop := va_Qd (fun (r0 : UInt64) (_ : Unit) => r0 = r) (fun _ => wE g A w1) A
abbrev qV (g : Gx) (A : Nat → Prop) (w1 : va_W) : Array Value → State → Outcome → State → Prop := va_Qv (fun (_ : Unit) => True) (fun _ => wE g A w1) A
def CtI (l : Launch) (y : MethodName) (wy : List Cond) (rm : Room) (g : Gx) (av : List Value) (w0 w1 : va_W) (r : Int32) (mc ms : Nat) : Prop :=
  ∀ sz, Met l y wy rm (va_Pc av (wB g w0 sz)) (qI g (va_A w0 sz) w1 r) mc ms (va_A w0 sz)
def CtJ (l : Launch) (y : MethodName) (wy : List Cond) (rm : Room) (g : Gx) (av : List Value) (w0 w1 : va_W) (r : Int64) (mc ms : Nat) : Prop :=
  ∀ sz, Met l y wy rm (va_Pc av (wB g w0 sz)) (qJ g (va_A w0 sz) w1 r) mc ms (va_A w0 sz)
def CtD (l : Launch) (y : MethodName) (wy : List Cond) (rm : Room) (g : Gx) (av : List Value) (w0 w1 : va_W) (r : UInt64) (mc ms : Nat) : Prop :=
  ∀ sz, Met l y wy rm (va_Pc av (wB g w0 sz)) (qD g (va_A w0 sz) w1 r) mc ms (va_A w0 sz)
def CtV (l : Launch) (y : MethodName) (wy : List Cond) (rm : Room) (g : Gx) (av : List Value) (w0 w1 : va_W) (mc ms : Nat) : Prop :=
  ∀ sz, Met l y wy rm (va_Pc av (wB g w0 sz)) (qV g (va_A w0 sz) w1) mc ms (va_A w0 sz)
theorem gU_V {own : String} {idx : Nat} {C : String} {y : MethodName} {bytes : ByteArray} {maxL : Nat} {ret : Option FieldType} (h1 : Cond.methodLink own idx y ∈ UW) (hc : Cond.instanceMethod y ∈ UW ∧ Cond.selects C y y ∈ UW ∧ Cond.initialized C ∈ UW ∧ Cond.code y bytes maxL ret ∈ UW) : GoodIn UW (wsV own idx C y (Cond.code y bytes maxL ret :: UW)) := by
  obtain ⟨h2, h3, h4, h5⟩ := hc
  intro w hw
  simp only [wsV, List.mem_append, List.mem_cons, List.not_mem_nil, or_false] at hw
  rcases hw with (rfl | rfl | rfl | rfl) | rfl | hw
  all_goals exact ⟨by assumption, good_of_word (UW_good (by assumption)).2⟩
theorem gU_S {own : String} {idx : Nat} {y : MethodName} {bytes : ByteArray} {maxL : Nat} {ret : Option FieldType} (h1 : Cond.methodLink own idx y ∈ UW) (hc : Cond.static y ∈ UW ∧ Cond.initialized y.cls ∈ UW ∧ Cond.code y bytes maxL ret ∈ UW) : GoodIn UW (va_wsS own idx y (Cond.code y bytes maxL ret :: UW)) := by
  obtain ⟨h2, h3, h5⟩ := hc
  intro w hw
  simp only [va_wsS, List.mem_append, List.mem_cons, List.not_mem_nil, or_false] at hw
  rcases hw with (rfl | rfl | rfl) | rfl | hw
  all_goals exact ⟨by assumption, good_of_word (UW_good (by assumption)).2⟩
theorem gU_0 {y : MethodName} {bytes : ByteArray} {maxL : Nat} {ret : Option FieldType} (h5 : Cond.code y bytes maxL ret ∈ UW) : GoodIn UW (Cond.code y bytes maxL ret :: UW) := by
  intro w hw
  rcases List.mem_cons.mp hw with rfl | hw
  all_goals exact ⟨by assumption, good_of_word (UW_good (by assumption)).2⟩
theorem hdX7_init : yX7_init.cls ≠ "java/lang/invoke/MethodHandle" ∧ yX7_init.cls ≠ "java/lang/invoke/VarHandle" ∧ (parseMethodDescriptor yX7_init.desc).map (fun d => d.parameters.length) = some 0 := by decide +kernel
theorem hdX7_addTest : yX7_addTest.cls = RX7 ∧ yX7_addTest.cls ≠ "java/lang/invoke/MethodHandle" ∧ yX7_addTest.cls ≠ "java/lang/invoke/VarHandle" ∧ (parseMethodDescriptor yX7_addTest.desc).map (fun d => d.parameters.length) = some 2 := by decide +kernel
theorem hcX7_addTest : Cond.instanceMethod yX7_addTest ∈ UW ∧ Cond.selects RX7 yX7_addTest yX7_addTest ∈ UW ∧ Cond.initialized RX7 ∈ UW ∧ Cond.code yX7_addTest cX7_addTest 3 (some .int) ∈ UW := ⟨mw_3_26, mw_3_27, mw_1_14, mw_3_28⟩
theorem hdX7_alike : yX7_alike.cls = RX7 ∧ yX7_alike.cls ≠ "java/lang/invoke/MethodHandle" ∧ yX7_alike.cls ≠ "java/lang/invoke/VarHandle" ∧ (parseMethodDescriptor yX7_alike.desc).map (fun d => d.parameters.length) = some 1 := by decide +kernel
theorem hcX7_alike : Cond.instanceMethod yX7_alike ∈ UW ∧ Cond.selects RX7 yX7_alike yX7_alike ∈ UW ∧ Cond.initialized RX7 ∈ UW ∧ Cond.code yX7_alike cX7_alike 2 (some .int) ∈ UW := ⟨mw_3_14, mw_3_15, mw_1_14, mw_3_16⟩
theorem hdX7_append : yX7_append.cls = RX7 ∧ yX7_append.cls ≠ "java/lang/invoke/MethodHandle" ∧ yX7_append.cls ≠ "java/lang/invoke/VarHandle" ∧ (parseMethodDescriptor yX7_append.desc).map (fun d => d.parameters.length) = some 5 := by decide +kernel
theorem hcX7_append : Cond.instanceMethod yX7_append ∈ UW ∧ Cond.selects RX7 yX7_append yX7_append ∈ UW ∧ Cond.initialized RX7 ∈ UW ∧ Cond.code yX7_append cX7_append 6 (some .int) ∈ UW := ⟨mw_3_202, mw_3_203, mw_1_14, mw_3_204⟩
theorem hdX7_areInputs : yX7_areInputs.cls = RX7 ∧ yX7_areInputs.cls ≠ "java/lang/invoke/MethodHandle" ∧ yX7_areInputs.cls ≠ "java/lang/invoke/VarHandle" ∧ (parseMethodDescriptor yX7_areInputs.desc).map (fun d => d.parameters.length) = some 1 := by decide +kernel
theorem hcX7_areInputs : Cond.instanceMethod yX7_areInputs ∈ UW ∧ Cond.selects RX7 yX7_areInputs yX7_areInputs ∈ UW ∧ Cond.initialized RX7 ∈ UW ∧ Cond.code yX7_areInputs cX7_areInputs 2 (some .boolean) ∈ UW := ⟨mw_3_31, mp_1_10, mw_1_14, mw_3_32⟩
theorem hdX7_checkFault : yX7_checkFault.cls = RX7 ∧ yX7_checkFault.cls ≠ "java/lang/invoke/MethodHandle" ∧ yX7_checkFault.cls ≠ "java/lang/invoke/VarHandle" ∧ (parseMethodDescriptor yX7_checkFault.desc).map (fun d => d.parameters.length) = some 1 := by decide +kernel
theorem hcX7_checkFault : Cond.instanceMethod yX7_checkFault ∈ UW ∧ Cond.selects RX7 yX7_checkFault yX7_checkFault ∈ UW ∧ Cond.initialized RX7 ∈ UW ∧ Cond.code yX7_checkFault cX7_checkFault 2 none ∈ UW := ⟨mw_2_209, mp_1_7, mw_1_14, mw_2_210⟩
theorem hdX7_checkTest : yX7_checkTest.cls = RX7 ∧ yX7_checkTest.cls ≠ "java/lang/invoke/MethodHandle" ∧ yX7_checkTest.cls ≠ "java/lang/invoke/VarHandle" ∧ (parseMethodDescriptor yX7_checkTest.desc).map (fun d => d.parameters.length) = some 1 := by decide +kernel
theorem hcX7_checkTest : Cond.instanceMethod yX7_checkTest ∈ UW ∧ Cond.selects RX7 yX7_checkTest yX7_checkTest ∈ UW ∧ Cond.initialized RX7 ∈ UW ∧ Cond.code yX7_checkTest cX7_checkTest 2 none ∈ UW := ⟨mw_4_129, mp_2_8, mw_1_14, mw_4_130⟩
theorem hdX7_checkWire : yX7_checkWire.cls = RX7 ∧ yX7_checkWire.cls ≠ "java/lang/invoke/MethodHandle" ∧ yX7_checkWire.cls ≠ "java/lang/invoke/VarHandle" ∧ (parseMethodDescriptor yX7_checkWire.desc).map (fun d => d.parameters.length) = some 1 := by decide +kernel
theorem hcX7_checkWire : Cond.instanceMethod yX7_checkWire ∈ UW ∧ Cond.selects RX7 yX7_checkWire yX7_checkWire ∈ UW ∧ Cond.initialized RX7 ∈ UW ∧ Cond.code yX7_checkWire cX7_checkWire 2 none ∈ UW := ⟨mw_4_134, mp_2_9, mw_1_14, mw_4_135⟩
theorem hdX7_classes : yX7_classes.cls = RX7 ∧ yX7_classes.cls ≠ "java/lang/invoke/MethodHandle" ∧ yX7_classes.cls ≠ "java/lang/invoke/VarHandle" ∧ (parseMethodDescriptor yX7_classes.desc).map (fun d => d.parameters.length) = some 0 := by decide +kernel
theorem hcX7_classes : Cond.instanceMethod yX7_classes ∈ UW ∧ Cond.selects RX7 yX7_classes yX7_classes ∈ UW ∧ Cond.initialized RX7 ∈ UW ∧ Cond.code yX7_classes cX7_classes 4 (some .int) ∈ UW := ⟨mw_3_22, mw_3_23, mw_1_14, mw_3_24⟩
theorem hdX7_faulty : yX7_faulty.cls = RX7 ∧ yX7_faulty.cls ≠ "java/lang/invoke/MethodHandle" ∧ yX7_faulty.cls ≠ "java/lang/invoke/VarHandle" ∧ (parseMethodDescriptor yX7_faulty.desc).map (fun d => d.parameters.length) = some 3 := by decide +kernel
theorem hcX7_faulty : Cond.instanceMethod yX7_faulty ∈ UW ∧ Cond.selects RX7 yX7_faulty yX7_faulty ∈ UW ∧ Cond.initialized RX7 ∈ UW ∧ Cond.code yX7_faulty cX7_faulty 4 (some .int) ∈ UW := ⟨mw_4_148, mw_4_149, mw_1_14, mw_4_150⟩
theorem hdX7_finds : yX7_finds.cls = RX7 ∧ yX7_finds.cls ≠ "java/lang/invoke/MethodHandle" ∧ yX7_finds.cls ≠ "java/lang/invoke/VarHandle" ∧ (parseMethodDescriptor yX7_finds.desc).map (fun d => d.parameters.length) = some 2 := by decide +kernel
theorem hcX7_finds : Cond.instanceMethod yX7_finds ∈ UW ∧ Cond.selects RX7 yX7_finds yX7_finds ∈ UW ∧ Cond.initialized RX7 ∈ UW ∧ Cond.code yX7_finds cX7_finds 3 (some .int) ∈ UW := ⟨mw_4_153, mw_4_154, mw_1_14, mw_4_155⟩
theorem hdX7_firstAlike : yX7_firstAlike.cls = RX7 ∧ yX7_firstAlike.cls ≠ "java/lang/invoke/MethodHandle" ∧ yX7_firstAlike.cls ≠ "java/lang/invoke/VarHandle" ∧ (parseMethodDescriptor yX7_firstAlike.desc).map (fun d => d.parameters.length) = some 1 := by decide +kernel
theorem hcX7_firstAlike : Cond.instanceMethod yX7_firstAlike ∈ UW ∧ Cond.selects RX7 yX7_firstAlike yX7_firstAlike ∈ UW ∧ Cond.initialized RX7 ∈ UW ∧ Cond.code yX7_firstAlike cX7_firstAlike 3 (some .int) ∈ UW := ⟨mw_3_19, mp_1_9, mw_1_14, mw_3_20⟩
theorem hdX7_forgetRows : yX7_forgetRows.cls = RX7 ∧ yX7_forgetRows.cls ≠ "java/lang/invoke/MethodHandle" ∧ yX7_forgetRows.cls ≠ "java/lang/invoke/VarHandle" ∧ (parseMethodDescriptor yX7_forgetRows.desc).map (fun d => d.parameters.length) = some 0 := by decide +kernel
theorem hcX7_forgetRows : Cond.instanceMethod yX7_forgetRows ∈ UW ∧ Cond.selects RX7 yX7_forgetRows yX7_forgetRows ∈ UW ∧ Cond.initialized RX7 ∈ UW ∧ Cond.code yX7_forgetRows cX7_forgetRows 1 none ∈ UW := ⟨mw_4_117, mp_2_7, mw_1_14, mw_4_118⟩
theorem hdX7_hasLane : yX7_hasLane.cls ≠ "java/lang/invoke/MethodHandle" ∧ yX7_hasLane.cls ≠ "java/lang/invoke/VarHandle" ∧ (parseMethodDescriptor yX7_hasLane.desc).map (fun d => d.parameters.length) = some 2 := by decide +kernel
theorem hcX7_hasLane : Cond.static yX7_hasLane ∈ UW ∧ Cond.initialized yX7_hasLane.cls ∈ UW ∧ Cond.code yX7_hasLane cX7_hasLane 3 (some .boolean) ∈ UW := ⟨mw_4_142, mw_1_14, mw_4_143⟩
theorem hdX7_hidden : yX7_hidden.cls = RX7 ∧ yX7_hidden.cls ≠ "java/lang/invoke/MethodHandle" ∧ yX7_hidden.cls ≠ "java/lang/invoke/VarHandle" ∧ (parseMethodDescriptor yX7_hidden.desc).map (fun d => d.parameters.length) = some 0 := by decide +kernel
theorem hcX7_hidden : Cond.instanceMethod yX7_hidden ∈ UW ∧ Cond.selects RX7 yX7_hidden yX7_hidden ∈ UW ∧ Cond.initialized RX7 ∈ UW ∧ Cond.code yX7_hidden cX7_hidden 4 (some .int) ∈ UW := ⟨mw_3_10, mw_3_11, mw_1_14, mw_3_12⟩
theorem hdX7_listFound : yX7_listFound.cls = RX7 ∧ yX7_listFound.cls ≠ "java/lang/invoke/MethodHandle" ∧ yX7_listFound.cls ≠ "java/lang/invoke/VarHandle" ∧ (parseMethodDescriptor yX7_listFound.desc).map (fun d => d.parameters.length) = some 3 := by decide +kernel
theorem hcX7_listFound : Cond.instanceMethod yX7_listFound ∈ UW ∧ Cond.selects RX7 yX7_listFound yX7_listFound ∈ UW ∧ Cond.initialized RX7 ∈ UW ∧ Cond.code yX7_listFound cX7_listFound 15 (some .long) ∈ UW := ⟨mw_2_113, mp_1_5, mw_1_14, mw_2_114⟩
theorem hdX7_listFoundByTests : yX7_listFoundByTests.cls = RX7 ∧ yX7_listFoundByTests.cls ≠ "java/lang/invoke/MethodHandle" ∧ yX7_listFoundByTests.cls ≠ "java/lang/invoke/VarHandle" ∧ (parseMethodDescriptor yX7_listFoundByTests.desc).map (fun d => d.parameters.length) = some 0 := by decide +kernel
theorem hcX7_listFoundByTests : Cond.instanceMethod yX7_listFoundByTests ∈ UW ∧ Cond.selects RX7 yX7_listFoundByTests yX7_listFoundByTests ∈ UW ∧ Cond.initialized RX7 ∈ UW ∧ Cond.code yX7_listFoundByTests cX7_listFoundByTests 1 (some .long) ∈ UW := ⟨mw_2_68, mp_1_0, mw_1_14, mw_2_69⟩
theorem hdX7_load : yX7_load.cls = RX7 ∧ yX7_load.cls ≠ "java/lang/invoke/MethodHandle" ∧ yX7_load.cls ≠ "java/lang/invoke/VarHandle" ∧ (parseMethodDescriptor yX7_load.desc).map (fun d => d.parameters.length) = some 1 := by decide +kernel
theorem hcX7_load : Cond.instanceMethod yX7_load ∈ UW ∧ Cond.selects RX7 yX7_load yX7_load ∈ UW ∧ Cond.initialized RX7 ∈ UW ∧ Cond.code yX7_load cX7_load 3 (some .int) ∈ UW := ⟨mw_3_210, mw_3_211, mw_1_14, mw_3_212⟩
theorem hdX7_refreshFullRows : yX7_refreshFullRows.cls = RX7 ∧ yX7_refreshFullRows.cls ≠ "java/lang/invoke/MethodHandle" ∧ yX7_refreshFullRows.cls ≠ "java/lang/invoke/VarHandle" ∧ (parseMethodDescriptor yX7_refreshFullRows.desc).map (fun d => d.parameters.length) = some 0 := by decide +kernel
theorem hcX7_refreshFullRows : Cond.instanceMethod yX7_refreshFullRows ∈ UW ∧ Cond.selects RX7 yX7_refreshFullRows yX7_refreshFullRows ∈ UW ∧ Cond.initialized RX7 ∈ UW ∧ Cond.code yX7_refreshFullRows cX7_refreshFullRows 3 none ∈ UW := ⟨mw_2_229, mp_1_8, mw_1_14, mw_2_230⟩
theorem hdX7_refreshTestRows : yX7_refreshTestRows.cls = RX7 ∧ yX7_refreshTestRows.cls ≠ "java/lang/invoke/MethodHandle" ∧ yX7_refreshTestRows.cls ≠ "java/lang/invoke/VarHandle" ∧ (parseMethodDescriptor yX7_refreshTestRows.desc).map (fun d => d.parameters.length) = some 0 := by decide +kernel
theorem hcX7_refreshTestRows : Cond.instanceMethod yX7_refreshTestRows ∈ UW ∧ Cond.selects RX7 yX7_refreshTestRows yX7_refreshTestRows ∈ UW ∧ Cond.initialized RX7 ∈ UW ∧ Cond.code yX7_refreshTestRows cX7_refreshTestRows 1 none ∈ UW := ⟨mw_2_72, mp_1_1, mw_1_14, mw_2_73⟩
theorem hdX7_state : yX7_state.cls = RX7 ∧ yX7_state.cls ≠ "java/lang/invoke/MethodHandle" ∧ yX7_state.cls ≠ "java/lang/invoke/VarHandle" ∧ (parseMethodDescriptor yX7_state.desc).map (fun d => d.parameters.length) = some 1 := by decide +kernel
theorem hcX7_state : Cond.instanceMethod yX7_state ∈ UW ∧ Cond.selects RX7 yX7_state yX7_state ∈ UW ∧ Cond.initialized RX7 ∈ UW ∧ Cond.code yX7_state cX7_state 2 (some .int) ∈ UW := ⟨mw_2_49, mw_2_50, mw_1_14, mw_2_51⟩
theorem hdX7_testFor : yX7_testFor.cls = RX7 ∧ yX7_testFor.cls ≠ "java/lang/invoke/MethodHandle" ∧ yX7_testFor.cls ≠ "java/lang/invoke/VarHandle" ∧ (parseMethodDescriptor yX7_testFor.desc).map (fun d => d.parameters.length) = some 1 := by decide +kernel
theorem hcX7_testFor : Cond.instanceMethod yX7_testFor ∈ UW ∧ Cond.selects RX7 yX7_testFor yX7_testFor ∈ UW ∧ Cond.initialized RX7 ∈ UW ∧ Cond.code yX7_testFor cX7_testFor 2 (some .int) ∈ UW := ⟨mw_2_204, mw_2_205, mw_1_14, mw_2_206⟩
theorem hdX7_value : yX7_value.cls = RX7 ∧ yX7_value.cls ≠ "java/lang/invoke/MethodHandle" ∧ yX7_value.cls ≠ "java/lang/invoke/VarHandle" ∧ (parseMethodDescriptor yX7_value.desc).map (fun d => d.parameters.length) = some 2 := by decide +kernel
theorem hcX7_value : Cond.instanceMethod yX7_value ∈ UW ∧ Cond.selects RX7 yX7_value yX7_value ∈ UW ∧ Cond.initialized RX7 ∈ UW ∧ Cond.code yX7_value cX7_value 3 (some .int) ∈ UW := ⟨mw_4_124, mw_4_125, mw_1_14, mw_4_126⟩
theorem hdX7_worth : yX7_worth.cls = RX7 ∧ yX7_worth.cls ≠ "java/lang/invoke/MethodHandle" ∧ yX7_worth.cls ≠ "java/lang/invoke/VarHandle" ∧ (parseMethodDescriptor yX7_worth.desc).map (fun d => d.parameters.length) = some 1 := by decide +kernel
theorem hcX7_worth : Cond.instanceMethod yX7_worth ∈ UW ∧ Cond.selects RX7 yX7_worth yX7_worth ∈ UW ∧ Cond.initialized RX7 ∈ UW ∧ Cond.code yX7_worth cX7_worth 2 (some .int) ∈ UW := ⟨mw_4_163, mw_4_164, mw_1_14, mw_4_165⟩
theorem hdX0_init : yX0_init.cls ≠ "java/lang/invoke/MethodHandle" ∧ yX0_init.cls ≠ "java/lang/invoke/VarHandle" ∧ (parseMethodDescriptor yX0_init.desc).map (fun d => d.parameters.length) = some 0 := by decide +kernel
theorem hdX0_clear : yX0_clear.cls = RX0 ∧ yX0_clear.cls ≠ "java/lang/invoke/MethodHandle" ∧ yX0_clear.cls ≠ "java/lang/invoke/VarHandle" ∧ (parseMethodDescriptor yX0_clear.desc).map (fun d => d.parameters.length) = some 1 := by decide +kernel
theorem hcX0_clear : Cond.instanceMethod yX0_clear ∈ UW ∧ Cond.selects RX0 yX0_clear yX0_clear ∈ UW ∧ Cond.initialized RX0 ∈ UW ∧ Cond.code yX0_clear cX0_clear 3 none ∈ UW := ⟨mw_1_56, mw_1_57, mw_1_17, mw_1_58⟩
theorem hdX0_copyFrom : yX0_copyFrom.cls = RX0 ∧ yX0_copyFrom.cls ≠ "java/lang/invoke/MethodHandle" ∧ yX0_copyFrom.cls ≠ "java/lang/invoke/VarHandle" ∧ (parseMethodDescriptor yX0_copyFrom.desc).map (fun d => d.parameters.length) = some 1 := by decide +kernel
theorem hcX0_copyFrom : Cond.instanceMethod yX0_copyFrom ∈ UW ∧ Cond.selects RX0 yX0_copyFrom yX0_copyFrom ∈ UW ∧ Cond.initialized RX0 ∈ UW ∧ Cond.code yX0_copyFrom cX0_copyFrom 2 none ∈ UW := ⟨mw_3_59, mw_3_60, mw_1_17, mw_3_61⟩
theorem hdX0_endGate : yX0_endGate.cls = RX0 ∧ yX0_endGate.cls ≠ "java/lang/invoke/MethodHandle" ∧ yX0_endGate.cls ≠ "java/lang/invoke/VarHandle" ∧ (parseMethodDescriptor yX0_endGate.desc).map (fun d => d.parameters.length) = some 0 := by decide +kernel
theorem hcX0_endGate : Cond.instanceMethod yX0_endGate ∈ UW ∧ Cond.selects RX0 yX0_endGate yX0_endGate ∈ UW ∧ Cond.initialized RX0 ∈ UW ∧ Cond.code yX0_endGate cX0_endGate 4 none ∈ UW := ⟨mw_4_61, mw_4_62, mw_1_17, mw_4_63⟩
theorem hdX0_faultCount : yX0_faultCount.cls = RX0 ∧ yX0_faultCount.cls ≠ "java/lang/invoke/MethodHandle" ∧ yX0_faultCount.cls ≠ "java/lang/invoke/VarHandle" ∧ (parseMethodDescriptor yX0_faultCount.desc).map (fun d => d.parameters.length) = some 0 := by decide +kernel
theorem hcX0_faultCount : Cond.instanceMethod yX0_faultCount ∈ UW ∧ Cond.selects RX0 yX0_faultCount yX0_faultCount ∈ UW ∧ Cond.initialized RX0 ∈ UW ∧ Cond.code yX0_faultCount cX0_faultCount 1 (some .int) ∈ UW := ⟨mw_2_53, mw_2_54, mw_1_17, mw_2_55⟩
theorem hdX0_fullWords : yX0_fullWords.cls = RX0 ∧ yX0_fullWords.cls ≠ "java/lang/invoke/MethodHandle" ∧ yX0_fullWords.cls ≠ "java/lang/invoke/VarHandle" ∧ (parseMethodDescriptor yX0_fullWords.desc).map (fun d => d.parameters.length) = some 0 := by decide +kernel
theorem hcX0_fullWords : Cond.instanceMethod yX0_fullWords ∈ UW ∧ Cond.selects RX0 yX0_fullWords yX0_fullWords ∈ UW ∧ Cond.initialized RX0 ∈ UW ∧ Cond.code yX0_fullWords cX0_fullWords 1 (some .int) ∈ UW := ⟨mw_2_232, mw_2_233, mw_1_17, mw_2_234⟩
theorem hdX0_greatestLevel : yX0_greatestLevel.cls = RX0 ∧ yX0_greatestLevel.cls ≠ "java/lang/invoke/MethodHandle" ∧ yX0_greatestLevel.cls ≠ "java/lang/invoke/VarHandle" ∧ (parseMethodDescriptor yX0_greatestLevel.desc).map (fun d => d.parameters.length) = some 0 := by decide +kernel
theorem hcX0_greatestLevel : Cond.instanceMethod yX0_greatestLevel ∈ UW ∧ Cond.selects RX0 yX0_greatestLevel yX0_greatestLevel ∈ UW ∧ Cond.initialized RX0 ∈ UW ∧ Cond.code yX0_greatestLevel cX0_greatestLevel 3 (some .int) ∈ UW := ⟨mw_2_129, mw_2_130, mw_1_17, mw_2_131⟩
theorem hdX0_hasBit : yX0_hasBit.cls ≠ "java/lang/invoke/MethodHandle" ∧ yX0_hasBit.cls ≠ "java/lang/invoke/VarHandle" ∧ (parseMethodDescriptor yX0_hasBit.desc).map (fun d => d.parameters.length) = some 2 := by decide +kernel
theorem hcX0_hasBit : Cond.static yX0_hasBit ∈ UW ∧ Cond.initialized yX0_hasBit.cls ∈ UW ∧ Cond.code yX0_hasBit cX0_hasBit 2 (some .boolean) ∈ UW := ⟨mw_2_79, mw_1_17, mw_2_80⟩
theorem hdX0_isFullOfBridges : yX0_isFullOfBridges.cls = RX0 ∧ yX0_isFullOfBridges.cls ≠ "java/lang/invoke/MethodHandle" ∧ yX0_isFullOfBridges.cls ≠ "java/lang/invoke/VarHandle" ∧ (parseMethodDescriptor yX0_isFullOfBridges.desc).map (fun d => d.parameters.length) = some 0 := by decide +kernel
theorem hcX0_isFullOfBridges : Cond.instanceMethod yX0_isFullOfBridges ∈ UW ∧ Cond.selects RX0 yX0_isFullOfBridges yX0_isFullOfBridges ∈ UW ∧ Cond.initialized RX0 ∈ UW ∧ Cond.code yX0_isFullOfBridges cX0_isFullOfBridges 1 (some .boolean) ∈ UW := ⟨mw_4_87, mw_4_88, mw_1_17, mw_4_89⟩
theorem hdX0_isFullOfGates : yX0_isFullOfGates.cls = RX0 ∧ yX0_isFullOfGates.cls ≠ "java/lang/invoke/MethodHandle" ∧ yX0_isFullOfGates.cls ≠ "java/lang/invoke/VarHandle" ∧ (parseMethodDescriptor yX0_isFullOfGates.desc).map (fun d => d.parameters.length) = some 0 := by decide +kernel
theorem hcX0_isFullOfGates : Cond.instanceMethod yX0_isFullOfGates ∈ UW ∧ Cond.selects RX0 yX0_isFullOfGates yX0_isFullOfGates ∈ UW ∧ Cond.initialized RX0 ∈ UW ∧ Cond.code yX0_isFullOfGates cX0_isFullOfGates 1 (some .boolean) ∈ UW := ⟨mw_4_32, mw_4_33, mw_1_17, mw_4_34⟩
theorem hdX0_isFullOfOutputs : yX0_isFullOfOutputs.cls = RX0 ∧ yX0_isFullOfOutputs.cls ≠ "java/lang/invoke/MethodHandle" ∧ yX0_isFullOfOutputs.cls ≠ "java/lang/invoke/VarHandle" ∧ (parseMethodDescriptor yX0_isFullOfOutputs.desc).map (fun d => d.parameters.length) = some 0 := by decide +kernel
theorem hcX0_isFullOfOutputs : Cond.instanceMethod yX0_isFullOfOutputs ∈ UW ∧ Cond.selects RX0 yX0_isFullOfOutputs yX0_isFullOfOutputs ∈ UW ∧ Cond.initialized RX0 ∈ UW ∧ Cond.code yX0_isFullOfOutputs cX0_isFullOfOutputs 1 (some .boolean) ∈ UW := ⟨mw_4_74, mw_4_75, mw_1_17, mw_4_76⟩
theorem hdX0_outputOf : yX0_outputOf.cls = RX0 ∧ yX0_outputOf.cls ≠ "java/lang/invoke/MethodHandle" ∧ yX0_outputOf.cls ≠ "java/lang/invoke/VarHandle" ∧ (parseMethodDescriptor yX0_outputOf.desc).map (fun d => d.parameters.length) = some 1 := by decide +kernel
theorem hcX0_outputOf : Cond.instanceMethod yX0_outputOf ∈ UW ∧ Cond.selects RX0 yX0_outputOf yX0_outputOf ∈ UW ∧ Cond.initialized RX0 ∈ UW ∧ Cond.code yX0_outputOf cX0_outputOf 3 (some .int) ∈ UW := ⟨mw_4_70, mw_4_71, mw_1_17, mw_4_72⟩
theorem hdX0_putBridge : yX0_putBridge.cls = RX0 ∧ yX0_putBridge.cls ≠ "java/lang/invoke/MethodHandle" ∧ yX0_putBridge.cls ≠ "java/lang/invoke/VarHandle" ∧ (parseMethodDescriptor yX0_putBridge.desc).map (fun d => d.parameters.length) = some 3 := by decide +kernel
theorem hcX0_putBridge : Cond.instanceMethod yX0_putBridge ∈ UW ∧ Cond.selects RX0 yX0_putBridge yX0_putBridge ∈ UW ∧ Cond.initialized RX0 ∈ UW ∧ Cond.code yX0_putBridge cX0_putBridge 4 none ∈ UW := ⟨mw_4_100, mw_4_101, mw_1_17, mw_4_102⟩
theorem hdX0_putOperand : yX0_putOperand.cls = RX0 ∧ yX0_putOperand.cls ≠ "java/lang/invoke/MethodHandle" ∧ yX0_putOperand.cls ≠ "java/lang/invoke/VarHandle" ∧ (parseMethodDescriptor yX0_putOperand.desc).map (fun d => d.parameters.length) = some 1 := by decide +kernel
theorem hcX0_putOperand : Cond.instanceMethod yX0_putOperand ∈ UW ∧ Cond.selects RX0 yX0_putOperand yX0_putOperand ∈ UW ∧ Cond.initialized RX0 ∈ UW ∧ Cond.code yX0_putOperand cX0_putOperand 2 none ∈ UW := ⟨mw_4_55, mw_4_56, mw_1_17, mw_4_57⟩
theorem hdX0_putOutput : yX0_putOutput.cls = RX0 ∧ yX0_putOutput.cls ≠ "java/lang/invoke/MethodHandle" ∧ yX0_putOutput.cls ≠ "java/lang/invoke/VarHandle" ∧ (parseMethodDescriptor yX0_putOutput.desc).map (fun d => d.parameters.length) = some 1 := by decide +kernel
theorem hcX0_putOutput : Cond.instanceMethod yX0_putOutput ∈ UW ∧ Cond.selects RX0 yX0_putOutput yX0_putOutput ∈ UW ∧ Cond.initialized RX0 ∈ UW ∧ Cond.code yX0_putOutput cX0_putOutput 2 none ∈ UW := ⟨mw_4_78, mw_4_79, mw_1_17, mw_4_80⟩
theorem hdX0_startGate : yX0_startGate.cls = RX0 ∧ yX0_startGate.cls ≠ "java/lang/invoke/MethodHandle" ∧ yX0_startGate.cls ≠ "java/lang/invoke/VarHandle" ∧ (parseMethodDescriptor yX0_startGate.desc).map (fun d => d.parameters.length) = some 1 := by decide +kernel
theorem hcX0_startGate : Cond.instanceMethod yX0_startGate ∈ UW ∧ Cond.selects RX0 yX0_startGate yX0_startGate ∈ UW ∧ Cond.initialized RX0 ∈ UW ∧ Cond.code yX0_startGate cX0_startGate 2 none ∈ UW := ⟨mw_4_49, mw_4_50, mw_1_17, mw_4_51⟩
theorem hdX0_wouldLoop : yX0_wouldLoop.cls = RX0 ∧ yX0_wouldLoop.cls ≠ "java/lang/invoke/MethodHandle" ∧ yX0_wouldLoop.cls ≠ "java/lang/invoke/VarHandle" ∧ (parseMethodDescriptor yX0_wouldLoop.desc).map (fun d => d.parameters.length) = some 2 := by decide +kernel
theorem hcX0_wouldLoop : Cond.instanceMethod yX0_wouldLoop ∈ UW ∧ Cond.selects RX0 yX0_wouldLoop yX0_wouldLoop ∈ UW ∧ Cond.initialized RX0 ∈ UW ∧ Cond.code yX0_wouldLoop cX0_wouldLoop 3 (some .boolean) ∈ UW := ⟨mw_4_95, mw_4_96, mw_1_17, mw_4_97⟩
theorem hdX1_init : yX1_init.cls ≠ "java/lang/invoke/MethodHandle" ∧ yX1_init.cls ≠ "java/lang/invoke/VarHandle" ∧ (parseMethodDescriptor yX1_init.desc).map (fun d => d.parameters.length) = some 0 := by decide +kernel
theorem hdX1_push : yX1_push.cls = RX1 ∧ yX1_push.cls ≠ "java/lang/invoke/MethodHandle" ∧ yX1_push.cls ≠ "java/lang/invoke/VarHandle" ∧ (parseMethodDescriptor yX1_push.desc).map (fun d => d.parameters.length) = some 1 := by decide +kernel
theorem hcX1_push : Cond.instanceMethod yX1_push ∈ UW ∧ Cond.selects RX1 yX1_push yX1_push ∈ UW ∧ Cond.initialized RX1 ∈ UW ∧ Cond.code yX1_push cX1_push 2 none ∈ UW := ⟨mw_3_51, mw_3_52, mw_1_19, mw_3_53⟩
theorem hdX2_init : yX2_init.cls ≠ "java/lang/invoke/MethodHandle" ∧ yX2_init.cls ≠ "java/lang/invoke/VarHandle" ∧ (parseMethodDescriptor yX2_init.desc).map (fun d => d.parameters.length) = some 0 := by decide +kernel
theorem hdX2_lane : yX2_lane.cls = RX2 ∧ yX2_lane.cls ≠ "java/lang/invoke/MethodHandle" ∧ yX2_lane.cls ≠ "java/lang/invoke/VarHandle" ∧ (parseMethodDescriptor yX2_lane.desc).map (fun d => d.parameters.length) = some 2 := by decide +kernel
theorem hcX2_lane : Cond.instanceMethod yX2_lane ∈ UW ∧ Cond.selects RX2 yX2_lane yX2_lane ∈ UW ∧ Cond.initialized RX2 ∈ UW ∧ Cond.code yX2_lane cX2_lane 3 (some .int) ∈ UW := ⟨mw_4_138, mw_4_139, mw_1_21, mw_4_140⟩
theorem hdX2_runFault : yX2_runFault.cls = RX2 ∧ yX2_runFault.cls ≠ "java/lang/invoke/MethodHandle" ∧ yX2_runFault.cls ≠ "java/lang/invoke/VarHandle" ∧ (parseMethodDescriptor yX2_runFault.desc).map (fun d => d.parameters.length) = some 3 := by decide +kernel
theorem hcX2_runFault : Cond.instanceMethod yX2_runFault ∈ UW ∧ Cond.selects RX2 yX2_runFault yX2_runFault ∈ UW ∧ Cond.initialized RX2 ∈ UW ∧ Cond.code yX2_runFault cX2_runFault 6 none ∈ UW := ⟨mw_2_103, mw_2_104, mw_1_21, mw_2_105⟩
theorem hdX2_runGate : yX2_runGate.cls = RX2 ∧ yX2_runGate.cls ≠ "java/lang/invoke/MethodHandle" ∧ yX2_runGate.cls ≠ "java/lang/invoke/VarHandle" ∧ (parseMethodDescriptor yX2_runGate.desc).map (fun d => d.parameters.length) = some 2 := by decide +kernel
theorem hcX2_runGate : Cond.instanceMethod yX2_runGate ∈ UW ∧ Cond.selects RX2 yX2_runGate yX2_runGate ∈ UW ∧ Cond.initialized RX2 ∈ UW ∧ Cond.code yX2_runGate cX2_runGate 16 none ∈ UW := ⟨mw_2_92, mp_1_2, mw_1_21, mw_2_93⟩
theorem hdX2_runGates : yX2_runGates.cls = RX2 ∧ yX2_runGates.cls ≠ "java/lang/invoke/MethodHandle" ∧ yX2_runGates.cls ≠ "java/lang/invoke/VarHandle" ∧ (parseMethodDescriptor yX2_runGates.desc).map (fun d => d.parameters.length) = some 1 := by decide +kernel
theorem hcX2_runGates : Cond.instanceMethod yX2_runGates ∈ UW ∧ Cond.selects RX2 yX2_runGates yX2_runGates ∈ UW ∧ Cond.initialized RX2 ∈ UW ∧ Cond.code yX2_runGates cX2_runGates 3 none ∈ UW := ⟨mw_2_87, mw_2_88, mw_1_21, mw_2_89⟩
theorem hdX2_setFullInputs : yX2_setFullInputs.cls = RX2 ∧ yX2_setFullInputs.cls ≠ "java/lang/invoke/MethodHandle" ∧ yX2_setFullInputs.cls ≠ "java/lang/invoke/VarHandle" ∧ (parseMethodDescriptor yX2_setFullInputs.desc).map (fun d => d.parameters.length) = some 2 := by decide +kernel
theorem hcX2_setFullInputs : Cond.instanceMethod yX2_setFullInputs ∈ UW ∧ Cond.selects RX2 yX2_setFullInputs yX2_setFullInputs ∈ UW ∧ Cond.initialized RX2 ∈ UW ∧ Cond.code yX2_setFullInputs cX2_setFullInputs 4 none ∈ UW := ⟨mw_2_236, mw_2_237, mw_1_21, mw_2_238⟩
theorem hdX2_setSites : yX2_setSites.cls = RX2 ∧ yX2_setSites.cls ≠ "java/lang/invoke/MethodHandle" ∧ yX2_setSites.cls ≠ "java/lang/invoke/VarHandle" ∧ (parseMethodDescriptor yX2_setSites.desc).map (fun d => d.parameters.length) = some 3 := by decide +kernel
theorem hcX2_setSites : Cond.instanceMethod yX2_setSites ∈ UW ∧ Cond.selects RX2 yX2_setSites yX2_setSites ∈ UW ∧ Cond.initialized RX2 ∈ UW ∧ Cond.code yX2_setSites cX2_setSites 7 (some .int) ∈ UW := ⟨mw_2_108, mp_1_4, mw_1_21, mw_2_109⟩
theorem hdX2_setTestInputs : yX2_setTestInputs.cls = RX2 ∧ yX2_setTestInputs.cls ≠ "java/lang/invoke/MethodHandle" ∧ yX2_setTestInputs.cls ≠ "java/lang/invoke/VarHandle" ∧ (parseMethodDescriptor yX2_setTestInputs.desc).map (fun d => d.parameters.length) = some 2 := by decide +kernel
theorem hcX2_setTestInputs : Cond.instanceMethod yX2_setTestInputs ∈ UW ∧ Cond.selects RX2 yX2_setTestInputs yX2_setTestInputs ∈ UW ∧ Cond.initialized RX2 ∈ UW ∧ Cond.code yX2_setTestInputs cX2_setTestInputs 5 none ∈ UW := ⟨mw_2_75, mw_2_76, mw_1_21, mw_2_77⟩
theorem hdX3_init : yX3_init.cls ≠ "java/lang/invoke/MethodHandle" ∧ yX3_init.cls ≠ "java/lang/invoke/VarHandle" ∧ (parseMethodDescriptor yX3_init.desc).map (fun d => d.parameters.length) = some 1 := by decide +kernel
theorem hdX3_apart : yX3_apart.cls = RX3 ∧ yX3_apart.cls ≠ "java/lang/invoke/MethodHandle" ∧ yX3_apart.cls ≠ "java/lang/invoke/VarHandle" ∧ (parseMethodDescriptor yX3_apart.desc).map (fun d => d.parameters.length) = some 4 := by decide +kernel
theorem hcX3_apart : Cond.instanceMethod yX3_apart ∈ UW ∧ Cond.selects RX3 yX3_apart yX3_apart ∈ UW ∧ Cond.initialized RX3 ∈ UW ∧ Cond.code yX3_apart cX3_apart 10 (some .long) ∈ UW := ⟨mw_2_119, mw_2_120, mw_1_20, mw_2_121⟩
theorem hdX3_blurred : yX3_blurred.cls = RX3 ∧ yX3_blurred.cls ≠ "java/lang/invoke/MethodHandle" ∧ yX3_blurred.cls ≠ "java/lang/invoke/VarHandle" ∧ (parseMethodDescriptor yX3_blurred.desc).map (fun d => d.parameters.length) = some 3 := by decide +kernel
theorem hcX3_blurred : Cond.instanceMethod yX3_blurred ∈ UW ∧ Cond.selects RX3 yX3_blurred yX3_blurred ∈ UW ∧ Cond.initialized RX3 ∈ UW ∧ Cond.code yX3_blurred cX3_blurred 9 (some .long) ∈ UW := ⟨mw_4_158, mw_4_159, mw_1_20, mw_4_160⟩
theorem hdX3_firstApart : yX3_firstApart.cls = RX3 ∧ yX3_firstApart.cls ≠ "java/lang/invoke/MethodHandle" ∧ yX3_firstApart.cls ≠ "java/lang/invoke/VarHandle" ∧ (parseMethodDescriptor yX3_firstApart.desc).map (fun d => d.parameters.length) = some 3 := by decide +kernel
theorem hcX3_firstApart : Cond.instanceMethod yX3_firstApart ∈ UW ∧ Cond.selects RX3 yX3_firstApart yX3_firstApart ∈ UW ∧ Cond.initialized RX3 ∈ UW ∧ Cond.code yX3_firstApart cX3_firstApart 8 (some .int) ∈ UW := ⟨mw_3_2, mw_3_3, mw_1_20, mw_3_4⟩
theorem hdX3_rowOf : yX3_rowOf.cls = RX3 ∧ yX3_rowOf.cls ≠ "java/lang/invoke/MethodHandle" ∧ yX3_rowOf.cls ≠ "java/lang/invoke/VarHandle" ∧ (parseMethodDescriptor yX3_rowOf.desc).map (fun d => d.parameters.length) = some 3 := by decide +kernel
theorem hcX3_rowOf : Cond.instanceMethod yX3_rowOf ∈ UW ∧ Cond.selects RX3 yX3_rowOf yX3_rowOf ∈ UW ∧ Cond.initialized RX3 ∈ UW ∧ Cond.code yX3_rowOf cX3_rowOf 4 (some .int) ∈ UW := ⟨mw_2_99, mw_2_100, mw_1_20, mw_2_101⟩
theorem hdX3_store : yX3_store.cls = RX3 ∧ yX3_store.cls ≠ "java/lang/invoke/MethodHandle" ∧ yX3_store.cls ≠ "java/lang/invoke/VarHandle" ∧ (parseMethodDescriptor yX3_store.desc).map (fun d => d.parameters.length) = some 4 := by decide +kernel
theorem hcX3_store : Cond.instanceMethod yX3_store ∈ UW ∧ Cond.selects RX3 yX3_store yX3_store ∈ UW ∧ Cond.initialized RX3 ∈ UW ∧ Cond.code yX3_store cX3_store 7 none ∈ UW := ⟨mw_2_96, mp_1_3, mw_1_20, mw_2_97⟩
theorem hdX3_work : yX3_work.cls = RX3 ∧ yX3_work.cls ≠ "java/lang/invoke/MethodHandle" ∧ yX3_work.cls ≠ "java/lang/invoke/VarHandle" ∧ (parseMethodDescriptor yX3_work.desc).map (fun d => d.parameters.length) = some 2 := by decide +kernel
theorem hcX3_work : Cond.instanceMethod yX3_work ∈ UW ∧ Cond.selects RX3 yX3_work yX3_work ∈ UW ∧ Cond.initialized RX3 ∈ UW ∧ Cond.code yX3_work cX3_work 5 none ∈ UW := ⟨mw_2_82, mw_2_83, mw_1_20, mw_2_84⟩
theorem hdX4_init : yX4_init.cls ≠ "java/lang/invoke/MethodHandle" ∧ yX4_init.cls ≠ "java/lang/invoke/VarHandle" ∧ (parseMethodDescriptor yX4_init.desc).map (fun d => d.parameters.length) = some 0 := by decide +kernel
theorem hdX4_clear : yX4_clear.cls = RX4 ∧ yX4_clear.cls ≠ "java/lang/invoke/MethodHandle" ∧ yX4_clear.cls ≠ "java/lang/invoke/VarHandle" ∧ (parseMethodDescriptor yX4_clear.desc).map (fun d => d.parameters.length) = some 1 := by decide +kernel
theorem hcX4_clear : Cond.instanceMethod yX4_clear ∈ UW ∧ Cond.selects RX4 yX4_clear yX4_clear ∈ UW ∧ Cond.initialized RX4 ∈ UW ∧ Cond.code yX4_clear cX4_clear 2 none ∈ UW := ⟨mw_3_220, mw_3_221, mw_1_16, mw_3_222⟩
theorem hdX4_copyFrom : yX4_copyFrom.cls = RX4 ∧ yX4_copyFrom.cls ≠ "java/lang/invoke/MethodHandle" ∧ yX4_copyFrom.cls ≠ "java/lang/invoke/VarHandle" ∧ (parseMethodDescriptor yX4_copyFrom.desc).map (fun d => d.parameters.length) = some 1 := by decide +kernel
theorem hcX4_copyFrom : Cond.instanceMethod yX4_copyFrom ∈ UW ∧ Cond.selects RX4 yX4_copyFrom yX4_copyFrom ∈ UW ∧ Cond.initialized RX4 ∈ UW ∧ Cond.code yX4_copyFrom cX4_copyFrom 2 none ∈ UW := ⟨mw_3_55, mw_3_56, mw_1_16, mw_3_57⟩
theorem hdX5_init : yX5_init.cls ≠ "java/lang/invoke/MethodHandle" ∧ yX5_init.cls ≠ "java/lang/invoke/VarHandle" ∧ (parseMethodDescriptor yX5_init.desc).map (fun d => d.parameters.length) = some 0 := by decide +kernel
theorem hdX5_advance : yX5_advance.cls = RX5 ∧ yX5_advance.cls ≠ "java/lang/invoke/MethodHandle" ∧ yX5_advance.cls ≠ "java/lang/invoke/VarHandle" ∧ (parseMethodDescriptor yX5_advance.desc).map (fun d => d.parameters.length) = some 0 := by decide +kernel
theorem hcX5_advance : Cond.instanceMethod yX5_advance ∈ UW ∧ Cond.selects RX5 yX5_advance yX5_advance ∈ UW ∧ Cond.initialized RX5 ∈ UW ∧ Cond.code yX5_advance cX5_advance 1 none ∈ UW := ⟨mw_3_234, mp_1_11, mw_1_15, mw_3_235⟩
theorem hdX5_fail : yX5_fail.cls = RX5 ∧ yX5_fail.cls ≠ "java/lang/invoke/MethodHandle" ∧ yX5_fail.cls ≠ "java/lang/invoke/VarHandle" ∧ (parseMethodDescriptor yX5_fail.desc).map (fun d => d.parameters.length) = some 1 := by decide +kernel
theorem hcX5_fail : Cond.instanceMethod yX5_fail ∈ UW ∧ Cond.selects RX5 yX5_fail yX5_fail ∈ UW ∧ Cond.initialized RX5 ∈ UW ∧ Cond.code yX5_fail cX5_fail 2 (some .boolean) ∈ UW := ⟨mw_4_16, mp_1_14, mw_1_15, mw_4_17⟩
theorem hdX5_isDigit : yX5_isDigit.cls ≠ "java/lang/invoke/MethodHandle" ∧ yX5_isDigit.cls ≠ "java/lang/invoke/VarHandle" ∧ (parseMethodDescriptor yX5_isDigit.desc).map (fun d => d.parameters.length) = some 1 := by decide +kernel
theorem hcX5_isDigit : Cond.static yX5_isDigit ∈ UW ∧ Cond.initialized yX5_isDigit.cls ∈ UW ∧ Cond.code yX5_isDigit cX5_isDigit 1 (some .boolean) ∈ UW := ⟨mw_3_237, mw_1_15, mw_3_238⟩
theorem hdX5_isKnownWire : yX5_isKnownWire.cls = RX5 ∧ yX5_isKnownWire.cls ≠ "java/lang/invoke/MethodHandle" ∧ yX5_isKnownWire.cls ≠ "java/lang/invoke/VarHandle" ∧ (parseMethodDescriptor yX5_isKnownWire.desc).map (fun d => d.parameters.length) = some 0 := by decide +kernel
theorem hcX5_isKnownWire : Cond.instanceMethod yX5_isKnownWire ∈ UW ∧ Cond.selects RX5 yX5_isKnownWire yX5_isKnownWire ∈ UW ∧ Cond.initialized RX5 ∈ UW ∧ Cond.code yX5_isKnownWire cX5_isKnownWire 1 (some .boolean) ∈ UW := ⟨mw_4_92, mp_2_5, mw_1_15, mw_4_93⟩
theorem hdX5_isLetter : yX5_isLetter.cls ≠ "java/lang/invoke/MethodHandle" ∧ yX5_isLetter.cls ≠ "java/lang/invoke/VarHandle" ∧ (parseMethodDescriptor yX5_isLetter.desc).map (fun d => d.parameters.length) = some 1 := by decide +kernel
theorem hcX5_isLetter : Cond.static yX5_isLetter ∈ UW ∧ Cond.initialized yX5_isLetter.cls ∈ UW ∧ Cond.code yX5_isLetter cX5_isLetter 1 (some .boolean) ∈ UW := ⟨mw_4_1, mw_1_15, mw_4_2⟩
theorem hdX5_isWord : yX5_isWord.cls = RX5 ∧ yX5_isWord.cls ≠ "java/lang/invoke/MethodHandle" ∧ yX5_isWord.cls ≠ "java/lang/invoke/VarHandle" ∧ (parseMethodDescriptor yX5_isWord.desc).map (fun d => d.parameters.length) = some 1 := by decide +kernel
theorem hcX5_isWord : Cond.instanceMethod yX5_isWord ∈ UW ∧ Cond.selects RX5 yX5_isWord yX5_isWord ∈ UW ∧ Cond.initialized RX5 ∈ UW ∧ Cond.code yX5_isWord cX5_isWord 3 (some .boolean) ∈ UW := ⟨mw_4_10, mp_1_13, mw_1_15, mw_4_11⟩
theorem hdX5_kindOfWord : yX5_kindOfWord.cls = RX5 ∧ yX5_kindOfWord.cls ≠ "java/lang/invoke/MethodHandle" ∧ yX5_kindOfWord.cls ≠ "java/lang/invoke/VarHandle" ∧ (parseMethodDescriptor yX5_kindOfWord.desc).map (fun d => d.parameters.length) = some 0 := by decide +kernel
theorem hcX5_kindOfWord : Cond.instanceMethod yX5_kindOfWord ∈ UW ∧ Cond.selects RX5 yX5_kindOfWord yX5_kindOfWord ∈ UW ∧ Cond.initialized RX5 ∈ UW ∧ Cond.code yX5_kindOfWord cX5_kindOfWord 1 (some .int) ∈ UW := ⟨mw_4_37, mp_2_2, mw_1_15, mw_4_38⟩
theorem hdX5_putBytes : yX5_putBytes.cls = RX5 ∧ yX5_putBytes.cls ≠ "java/lang/invoke/MethodHandle" ∧ yX5_putBytes.cls ≠ "java/lang/invoke/VarHandle" ∧ (parseMethodDescriptor yX5_putBytes.desc).map (fun d => d.parameters.length) = some 1 := by decide +kernel
theorem hcX5_putBytes : Cond.instanceMethod yX5_putBytes ∈ UW ∧ Cond.selects RX5 yX5_putBytes yX5_putBytes ∈ UW ∧ Cond.initialized RX5 ∈ UW ∧ Cond.code yX5_putBytes cX5_putBytes 3 none ∈ UW := ⟨mw_3_206, mw_3_207, mw_1_15, mw_3_208⟩
theorem hdX5_read : yX5_read.cls = RX5 ∧ yX5_read.cls ≠ "java/lang/invoke/MethodHandle" ∧ yX5_read.cls ≠ "java/lang/invoke/VarHandle" ∧ (parseMethodDescriptor yX5_read.desc).map (fun d => d.parameters.length) = some 1 := by decide +kernel
theorem hcX5_read : Cond.instanceMethod yX5_read ∈ UW ∧ Cond.selects RX5 yX5_read yX5_read ∈ UW ∧ Cond.initialized RX5 ∈ UW ∧ Cond.code yX5_read cX5_read 4 (some .int) ∈ UW := ⟨mw_3_215, mw_3_216, mw_1_15, mw_3_217⟩
theorem hdX5_readBridge : yX5_readBridge.cls = RX5 ∧ yX5_readBridge.cls ≠ "java/lang/invoke/MethodHandle" ∧ yX5_readBridge.cls ≠ "java/lang/invoke/VarHandle" ∧ (parseMethodDescriptor yX5_readBridge.desc).map (fun d => d.parameters.length) = some 0 := by decide +kernel
theorem hcX5_readBridge : Cond.instanceMethod yX5_readBridge ∈ UW ∧ Cond.selects RX5 yX5_readBridge yX5_readBridge ∈ UW ∧ Cond.initialized RX5 ∈ UW ∧ Cond.code yX5_readBridge cX5_readBridge 4 (some .boolean) ∈ UW := ⟨mw_4_84, mp_2_4, mw_1_15, mw_4_85⟩
theorem hdX5_readCircuit : yX5_readCircuit.cls = RX5 ∧ yX5_readCircuit.cls ≠ "java/lang/invoke/MethodHandle" ∧ yX5_readCircuit.cls ≠ "java/lang/invoke/VarHandle" ∧ (parseMethodDescriptor yX5_readCircuit.desc).map (fun d => d.parameters.length) = some 0 := by decide +kernel
theorem hcX5_readCircuit : Cond.instanceMethod yX5_readCircuit ∈ UW ∧ Cond.selects RX5 yX5_readCircuit yX5_readCircuit ∈ UW ∧ Cond.initialized RX5 ∈ UW ∧ Cond.code yX5_readCircuit cX5_readCircuit 1 (some .boolean) ∈ UW := ⟨mw_4_5, mp_1_12, mw_1_15, mw_4_6⟩
theorem hdX5_readGate : yX5_readGate.cls = RX5 ∧ yX5_readGate.cls ≠ "java/lang/invoke/MethodHandle" ∧ yX5_readGate.cls ≠ "java/lang/invoke/VarHandle" ∧ (parseMethodDescriptor yX5_readGate.desc).map (fun d => d.parameters.length) = some 0 := by decide +kernel
theorem hcX5_readGate : Cond.instanceMethod yX5_readGate ∈ UW ∧ Cond.selects RX5 yX5_readGate yX5_readGate ∈ UW ∧ Cond.initialized RX5 ∈ UW ∧ Cond.code yX5_readGate cX5_readGate 5 (some .boolean) ∈ UW := ⟨mw_4_29, mp_2_1, mw_1_15, mw_4_30⟩
theorem hdX5_readOutputs : yX5_readOutputs.cls = RX5 ∧ yX5_readOutputs.cls ≠ "java/lang/invoke/MethodHandle" ∧ yX5_readOutputs.cls ≠ "java/lang/invoke/VarHandle" ∧ (parseMethodDescriptor yX5_readOutputs.desc).map (fun d => d.parameters.length) = some 0 := by decide +kernel
theorem hcX5_readOutputs : Cond.instanceMethod yX5_readOutputs ∈ UW ∧ Cond.selects RX5 yX5_readOutputs yX5_readOutputs ∈ UW ∧ Cond.initialized RX5 ∈ UW ∧ Cond.code yX5_readOutputs cX5_readOutputs 3 (some .boolean) ∈ UW := ⟨mw_4_67, mp_2_3, mw_1_15, mw_4_68⟩
theorem hdX5_readSemicolon : yX5_readSemicolon.cls = RX5 ∧ yX5_readSemicolon.cls ≠ "java/lang/invoke/MethodHandle" ∧ yX5_readSemicolon.cls ≠ "java/lang/invoke/VarHandle" ∧ (parseMethodDescriptor yX5_readSemicolon.desc).map (fun d => d.parameters.length) = some 0 := by decide +kernel
theorem hcX5_readSemicolon : Cond.instanceMethod yX5_readSemicolon ∈ UW ∧ Cond.selects RX5 yX5_readSemicolon yX5_readSemicolon ∈ UW ∧ Cond.initialized RX5 ∈ UW ∧ Cond.code yX5_readSemicolon cX5_readSemicolon 1 (some .boolean) ∈ UW := ⟨mw_4_20, mp_1_15, mw_1_15, mw_4_21⟩
theorem hdX5_readStatement : yX5_readStatement.cls = RX5 ∧ yX5_readStatement.cls ≠ "java/lang/invoke/MethodHandle" ∧ yX5_readStatement.cls ≠ "java/lang/invoke/VarHandle" ∧ (parseMethodDescriptor yX5_readStatement.desc).map (fun d => d.parameters.length) = some 0 := by decide +kernel
theorem hcX5_readStatement : Cond.instanceMethod yX5_readStatement ∈ UW ∧ Cond.selects RX5 yX5_readStatement yX5_readStatement ∈ UW ∧ Cond.initialized RX5 ∈ UW ∧ Cond.code yX5_readStatement cX5_readStatement 1 (some .boolean) ∈ UW := ⟨mw_4_24, mp_2_0, mw_1_15, mw_4_25⟩
theorem hdX5_readTest : yX5_readTest.cls = RX5 ∧ yX5_readTest.cls ≠ "java/lang/invoke/MethodHandle" ∧ yX5_readTest.cls ≠ "java/lang/invoke/VarHandle" ∧ (parseMethodDescriptor yX5_readTest.desc).map (fun d => d.parameters.length) = some 0 := by decide +kernel
theorem hcX5_readTest : Cond.instanceMethod yX5_readTest ∈ UW ∧ Cond.selects RX5 yX5_readTest yX5_readTest ∈ UW ∧ Cond.initialized RX5 ∈ UW ∧ Cond.code yX5_readTest cX5_readTest 4 (some .boolean) ∈ UW := ⟨mw_4_106, mp_2_6, mw_1_15, mw_4_107⟩
theorem hdX6_init : yX6_init.cls ≠ "java/lang/invoke/MethodHandle" ∧ yX6_init.cls ≠ "java/lang/invoke/VarHandle" ∧ (parseMethodDescriptor yX6_init.desc).map (fun d => d.parameters.length) = some 0 := by decide +kernel
theorem hdX6_clear : yX6_clear.cls = RX6 ∧ yX6_clear.cls ≠ "java/lang/invoke/MethodHandle" ∧ yX6_clear.cls ≠ "java/lang/invoke/VarHandle" ∧ (parseMethodDescriptor yX6_clear.desc).map (fun d => d.parameters.length) = some 0 := by decide +kernel
theorem hcX6_clear : Cond.instanceMethod yX6_clear ∈ UW ∧ Cond.selects RX6 yX6_clear yX6_clear ∈ UW ∧ Cond.initialized RX6 ∈ UW ∧ Cond.code yX6_clear cX6_clear 1 none ∈ UW := ⟨mw_3_225, mw_3_226, mw_1_18, mw_3_227⟩
theorem hdX6_clearSeen : yX6_clearSeen.cls = RX6 ∧ yX6_clearSeen.cls ≠ "java/lang/invoke/MethodHandle" ∧ yX6_clearSeen.cls ≠ "java/lang/invoke/VarHandle" ∧ (parseMethodDescriptor yX6_clearSeen.desc).map (fun d => d.parameters.length) = some 0 := by decide +kernel
theorem hcX6_clearSeen : Cond.instanceMethod yX6_clearSeen ∈ UW ∧ Cond.selects RX6 yX6_clearSeen yX6_clearSeen ∈ UW ∧ Cond.initialized RX6 ∈ UW ∧ Cond.code yX6_clearSeen cX6_clearSeen 2 none ∈ UW := ⟨mw_3_229, mw_3_230, mw_1_18, mw_3_231⟩
theorem hdX6_copyFrom : yX6_copyFrom.cls = RX6 ∧ yX6_copyFrom.cls ≠ "java/lang/invoke/MethodHandle" ∧ yX6_copyFrom.cls ≠ "java/lang/invoke/VarHandle" ∧ (parseMethodDescriptor yX6_copyFrom.desc).map (fun d => d.parameters.length) = some 1 := by decide +kernel
theorem hcX6_copyFrom : Cond.instanceMethod yX6_copyFrom ∈ UW ∧ Cond.selects RX6 yX6_copyFrom yX6_copyFrom ∈ UW ∧ Cond.initialized RX6 ∈ UW ∧ Cond.code yX6_copyFrom cX6_copyFrom 2 none ∈ UW := ⟨mw_3_66, mw_3_67, mw_1_18, mw_3_68⟩
theorem hdX6_countSeen : yX6_countSeen.cls = RX6 ∧ yX6_countSeen.cls ≠ "java/lang/invoke/MethodHandle" ∧ yX6_countSeen.cls ≠ "java/lang/invoke/VarHandle" ∧ (parseMethodDescriptor yX6_countSeen.desc).map (fun d => d.parameters.length) = some 0 := by decide +kernel
theorem hcX6_countSeen : Cond.instanceMethod yX6_countSeen ∈ UW ∧ Cond.selects RX6 yX6_countSeen yX6_countSeen ∈ UW ∧ Cond.initialized RX6 ∈ UW ∧ Cond.code yX6_countSeen cX6_countSeen 3 (some .int) ∈ UW := ⟨mw_2_57, mw_2_58, mw_1_18, mw_2_59⟩
theorem hdX6_isFull : yX6_isFull.cls = RX6 ∧ yX6_isFull.cls ≠ "java/lang/invoke/MethodHandle" ∧ yX6_isFull.cls ≠ "java/lang/invoke/VarHandle" ∧ (parseMethodDescriptor yX6_isFull.desc).map (fun d => d.parameters.length) = some 0 := by decide +kernel
theorem hcX6_isFull : Cond.instanceMethod yX6_isFull ∈ UW ∧ Cond.selects RX6 yX6_isFull yX6_isFull ∈ UW ∧ Cond.initialized RX6 ∈ UW ∧ Cond.code yX6_isFull cX6_isFull 1 (some .boolean) ∈ UW := ⟨mw_4_109, mw_4_110, mw_1_18, mw_4_111⟩
theorem hdX6_put : yX6_put.cls = RX6 ∧ yX6_put.cls ≠ "java/lang/invoke/MethodHandle" ∧ yX6_put.cls ≠ "java/lang/invoke/VarHandle" ∧ (parseMethodDescriptor yX6_put.desc).map (fun d => d.parameters.length) = some 2 := by decide +kernel
theorem hcX6_put : Cond.instanceMethod yX6_put ∈ UW ∧ Cond.selects RX6 yX6_put yX6_put ∈ UW ∧ Cond.initialized RX6 ∈ UW ∧ Cond.code yX6_put cX6_put 3 none ∈ UW := ⟨mw_3_72, mw_3_73, mw_1_18, mw_3_74⟩
theorem hdX8_init : yX8_init.cls ≠ "java/lang/invoke/MethodHandle" ∧ yX8_init.cls ≠ "java/lang/invoke/VarHandle" ∧ (parseMethodDescriptor yX8_init.desc).map (fun d => d.parameters.length) = some 2 := by decide +kernel
theorem hdX8_finds : yX8_finds.cls = RX8 ∧ yX8_finds.cls ≠ "java/lang/invoke/MethodHandle" ∧ yX8_finds.cls ≠ "java/lang/invoke/VarHandle" ∧ (parseMethodDescriptor yX8_finds.desc).map (fun d => d.parameters.length) = some 2 := by decide +kernel
theorem hcX8_finds : Cond.instanceMethod yX8_finds ∈ UW ∧ Cond.selects RX8 yX8_finds yX8_finds ∈ UW ∧ Cond.initialized RX8 ∈ UW ∧ Cond.code yX8_finds cX8_finds 10 (some .int) ∈ UW := ⟨mw_3_119, mw_3_120, mw_1_1, mw_3_121⟩
theorem hdX8_full : yX8_full.cls = RX8 ∧ yX8_full.cls ≠ "java/lang/invoke/MethodHandle" ∧ yX8_full.cls ≠ "java/lang/invoke/VarHandle" ∧ (parseMethodDescriptor yX8_full.desc).map (fun d => d.parameters.length) = some 1 := by decide +kernel
theorem hcX8_full : Cond.instanceMethod yX8_full ∈ UW ∧ Cond.selects RX8 yX8_full yX8_full ∈ UW ∧ Cond.initialized RX8 ∈ UW ∧ Cond.code yX8_full cX8_full 4 (some (.array .int)) ∈ UW := ⟨mw_3_135, mw_3_136, mw_1_1, mw_3_137⟩
theorem hdX8_isApart : yX8_isApart.cls = RX8 ∧ yX8_isApart.cls ≠ "java/lang/invoke/MethodHandle" ∧ yX8_isApart.cls ≠ "java/lang/invoke/VarHandle" ∧ (parseMethodDescriptor yX8_isApart.desc).map (fun d => d.parameters.length) = some 2 := by decide +kernel
theorem hcX8_isApart : Cond.instanceMethod yX8_isApart ∈ UW ∧ Cond.selects RX8 yX8_isApart yX8_isApart ∈ UW ∧ Cond.initialized RX8 ∈ UW ∧ Cond.code yX8_isApart cX8_isApart 10 (some .boolean) ∈ UW := ⟨mw_3_139, mw_3_140, mw_1_1, mw_3_141⟩
theorem hdX8_values : yX8_values.cls = RX8 ∧ yX8_values.cls ≠ "java/lang/invoke/MethodHandle" ∧ yX8_values.cls ≠ "java/lang/invoke/VarHandle" ∧ (parseMethodDescriptor yX8_values.desc).map (fun d => d.parameters.length) = some 2 := by decide +kernel
theorem hcX8_values : Cond.instanceMethod yX8_values ∈ UW ∧ Cond.selects RX8 yX8_values yX8_values ∈ UW ∧ Cond.initialized RX8 ∈ UW ∧ Cond.code yX8_values cX8_values 8 (some (.array .int)) ∈ UW := ⟨mw_3_123, mw_3_124, mw_1_1, mw_3_125⟩
theorem hdX8_wires : yX8_wires.cls = RX8 ∧ yX8_wires.cls ≠ "java/lang/invoke/MethodHandle" ∧ yX8_wires.cls ≠ "java/lang/invoke/VarHandle" ∧ (parseMethodDescriptor yX8_wires.desc).map (fun d => d.parameters.length) = some 0 := by decide +kernel
theorem hcX8_wires : Cond.instanceMethod yX8_wires ∈ UW ∧ Cond.selects RX8 yX8_wires yX8_wires ∈ UW ∧ Cond.initialized RX8 ∈ UW ∧ Cond.code yX8_wires cX8_wires 1 (some .int) ∈ UW := ⟨mw_3_115, mw_3_116, mw_1_1, mw_3_117⟩
theorem hdJ5_init_d00df : yJ5_init_d00df.cls ≠ "java/lang/invoke/MethodHandle" ∧ yJ5_init_d00df.cls ≠ "java/lang/invoke/VarHandle" ∧ (parseMethodDescriptor yJ5_init_d00df.desc).map (fun d => d.parameters.length) = some 1 := by decide +kernel
theorem hdJ5_init_a7421 : yJ5_init_a7421.cls ≠ "java/lang/invoke/MethodHandle" ∧ yJ5_init_a7421.cls ≠ "java/lang/invoke/VarHandle" ∧ (parseMethodDescriptor yJ5_init_a7421.desc).map (fun d => d.parameters.length) = some 1 := by decide +kernel
theorem hdJ5_append_3fe6f : yJ5_append_3fe6f.cls = RJ5 ∧ yJ5_append_3fe6f.cls ≠ "java/lang/invoke/MethodHandle" ∧ yJ5_append_3fe6f.cls ≠ "java/lang/invoke/VarHandle" ∧ (parseMethodDescriptor yJ5_append_3fe6f.desc).map (fun d => d.parameters.length) = some 1 := by decide +kernel
theorem hdJ5_append_c97b9 : yJ5_append_c97b9.cls = RJ5 ∧ yJ5_append_c97b9.cls ≠ "java/lang/invoke/MethodHandle" ∧ yJ5_append_c97b9.cls ≠ "java/lang/invoke/VarHandle" ∧ (parseMethodDescriptor yJ5_append_c97b9.desc).map (fun d => d.parameters.length) = some 1 := by decide +kernel
theorem hdJ5_append_cf1ce : yJ5_append_cf1ce.cls = RJ5 ∧ yJ5_append_cf1ce.cls ≠ "java/lang/invoke/MethodHandle" ∧ yJ5_append_cf1ce.cls ≠ "java/lang/invoke/VarHandle" ∧ (parseMethodDescriptor yJ5_append_cf1ce.desc).map (fun d => d.parameters.length) = some 1 := by decide +kernel
theorem hdJ5_appendNull_278bc : yJ5_appendNull_278bc.cls = RJ5 ∧ yJ5_appendNull_278bc.cls ≠ "java/lang/invoke/MethodHandle" ∧ yJ5_appendNull_278bc.cls ≠ "java/lang/invoke/VarHandle" ∧ (parseMethodDescriptor yJ5_appendNull_278bc.desc).map (fun d => d.parameters.length) = some 0 := by decide +kernel
theorem hdJ5_ensureCapacityInternal_d00df : yJ5_ensureCapacityInternal_d00df.cls = RJ5 ∧ yJ5_ensureCapacityInternal_d00df.cls ≠ "java/lang/invoke/MethodHandle" ∧ yJ5_ensureCapacityInternal_d00df.cls ≠ "java/lang/invoke/VarHandle" ∧ (parseMethodDescriptor yJ5_ensureCapacityInternal_d00df.desc).map (fun d => d.parameters.length) = some 1 := by decide +kernel
theorem hdJ5_getValue_6d5f1 : yJ5_getValue_6d5f1.cls = RJ5 ∧ yJ5_getValue_6d5f1.cls ≠ "java/lang/invoke/MethodHandle" ∧ yJ5_getValue_6d5f1.cls ≠ "java/lang/invoke/VarHandle" ∧ (parseMethodDescriptor yJ5_getValue_6d5f1.desc).map (fun d => d.parameters.length) = some 0 := by decide +kernel
theorem hdJ5_inflate_da8c8 : yJ5_inflate_da8c8.cls = RJ5 ∧ yJ5_inflate_da8c8.cls ≠ "java/lang/invoke/MethodHandle" ∧ yJ5_inflate_da8c8.cls ≠ "java/lang/invoke/VarHandle" ∧ (parseMethodDescriptor yJ5_inflate_da8c8.desc).map (fun d => d.parameters.length) = some 0 := by decide +kernel
theorem hdJ5_inflateIfNeededFor_a7421 : yJ5_inflateIfNeededFor_a7421.cls = RJ5 ∧ yJ5_inflateIfNeededFor_a7421.cls ≠ "java/lang/invoke/MethodHandle" ∧ yJ5_inflateIfNeededFor_a7421.cls ≠ "java/lang/invoke/VarHandle" ∧ (parseMethodDescriptor yJ5_inflateIfNeededFor_a7421.desc).map (fun d => d.parameters.length) = some 1 := by decide +kernel
theorem hdJ5_isLatin1_aae02 : yJ5_isLatin1_aae02.cls = RJ5 ∧ yJ5_isLatin1_aae02.cls ≠ "java/lang/invoke/MethodHandle" ∧ yJ5_isLatin1_aae02.cls ≠ "java/lang/invoke/VarHandle" ∧ (parseMethodDescriptor yJ5_isLatin1_aae02.desc).map (fun d => d.parameters.length) = some 0 := by decide +kernel
theorem hdJ5_length_8abf5 : yJ5_length_8abf5.cls = RJ5 ∧ yJ5_length_8abf5.cls ≠ "java/lang/invoke/MethodHandle" ∧ yJ5_length_8abf5.cls ≠ "java/lang/invoke/VarHandle" ∧ (parseMethodDescriptor yJ5_length_8abf5.desc).map (fun d => d.parameters.length) = some 0 := by decide +kernel
theorem hdJ5_newCapacity_0f7a4 : yJ5_newCapacity_0f7a4.cls = RJ5 ∧ yJ5_newCapacity_0f7a4.cls ≠ "java/lang/invoke/MethodHandle" ∧ yJ5_newCapacity_0f7a4.cls ≠ "java/lang/invoke/VarHandle" ∧ (parseMethodDescriptor yJ5_newCapacity_0f7a4.desc).map (fun d => d.parameters.length) = some 1 := by decide +kernel
theorem hdJ5_putStringAt_47b60 : yJ5_putStringAt_47b60.cls = RJ5 ∧ yJ5_putStringAt_47b60.cls ≠ "java/lang/invoke/MethodHandle" ∧ yJ5_putStringAt_47b60.cls ≠ "java/lang/invoke/VarHandle" ∧ (parseMethodDescriptor yJ5_putStringAt_47b60.desc).map (fun d => d.parameters.length) = some 2 := by decide +kernel
theorem hdJ6_bitCount_0f7a4 : yJ6_bitCount_0f7a4.cls ≠ "java/lang/invoke/MethodHandle" ∧ yJ6_bitCount_0f7a4.cls ≠ "java/lang/invoke/VarHandle" ∧ (parseMethodDescriptor yJ6_bitCount_0f7a4.desc).map (fun d => d.parameters.length) = some 1 := by decide +kernel
theorem hcJ6_bitCount_0f7a4 : Cond.static yJ6_bitCount_0f7a4 ∈ UW ∧ Cond.initialized yJ6_bitCount_0f7a4.cls ∈ UW ∧ Cond.code yJ6_bitCount_0f7a4 cJ6_bitCount_0f7a4 1 (some .int) ∈ UW := ⟨mw_2_61, mw_1_13, mw_2_62⟩
theorem hdJ6_getChars_ba4f3 : yJ6_getChars_ba4f3.cls ≠ "java/lang/invoke/MethodHandle" ∧ yJ6_getChars_ba4f3.cls ≠ "java/lang/invoke/VarHandle" ∧ (parseMethodDescriptor yJ6_getChars_ba4f3.desc).map (fun d => d.parameters.length) = some 3 := by decide +kernel
theorem hcJ6_getChars_ba4f3 : Cond.static yJ6_getChars_ba4f3 ∈ UW ∧ Cond.initialized yJ6_getChars_ba4f3.cls ∈ UW ∧ Cond.code yJ6_getChars_ba4f3 cJ6_getChars_ba4f3 7 (some .int) ∈ UW := ⟨mw_5_88, mw_1_13, mw_5_89⟩
theorem hdJ6_stringSize_0f7a4 : yJ6_stringSize_0f7a4.cls ≠ "java/lang/invoke/MethodHandle" ∧ yJ6_stringSize_0f7a4.cls ≠ "java/lang/invoke/VarHandle" ∧ (parseMethodDescriptor yJ6_stringSize_0f7a4.desc).map (fun d => d.parameters.length) = some 1 := by decide +kernel
theorem hcJ6_stringSize_0f7a4 : Cond.static yJ6_stringSize_0f7a4 ∈ UW ∧ Cond.initialized yJ6_stringSize_0f7a4.cls ∈ UW ∧ Cond.code yJ6_stringSize_0f7a4 cJ6_stringSize_0f7a4 4 (some .int) ∈ UW := ⟨mw_5_85, mw_1_13, mw_5_86⟩
theorem hdJ13_bitCount_95d88 : yJ13_bitCount_95d88.cls ≠ "java/lang/invoke/MethodHandle" ∧ yJ13_bitCount_95d88.cls ≠ "java/lang/invoke/VarHandle" ∧ (parseMethodDescriptor yJ13_bitCount_95d88.desc).map (fun d => d.parameters.length) = some 1 := by decide +kernel
theorem hcJ13_bitCount_95d88 : Cond.static yJ13_bitCount_95d88 ∈ UW ∧ Cond.initialized yJ13_bitCount_95d88.cls ∈ UW ∧ Cond.code yJ13_bitCount_95d88 cJ13_bitCount_95d88 2 (some .int) ∈ UW := ⟨mw_2_123, mw_1_26, mw_2_124⟩
theorem hdJ9_max_7cf53 : yJ9_max_7cf53.cls ≠ "java/lang/invoke/MethodHandle" ∧ yJ9_max_7cf53.cls ≠ "java/lang/invoke/VarHandle" ∧ (parseMethodDescriptor yJ9_max_7cf53.desc).map (fun d => d.parameters.length) = some 2 := by decide +kernel
theorem hcJ9_max_7cf53 : Cond.static yJ9_max_7cf53 ∈ UW ∧ Cond.initialized yJ9_max_7cf53.cls ∈ UW ∧ Cond.code yJ9_max_7cf53 cJ9_max_7cf53 2 (some .int) ∈ UW := ⟨mw_2_133, mw_1_7, mw_2_134⟩
theorem hdJ9_min_7cf53 : yJ9_min_7cf53.cls ≠ "java/lang/invoke/MethodHandle" ∧ yJ9_min_7cf53.cls ≠ "java/lang/invoke/VarHandle" ∧ (parseMethodDescriptor yJ9_min_7cf53.desc).map (fun d => d.parameters.length) = some 2 := by decide +kernel
theorem hcJ9_min_7cf53 : Cond.static yJ9_min_7cf53 ∈ UW ∧ Cond.initialized yJ9_min_7cf53.cls ∈ UW ∧ Cond.code yJ9_min_7cf53 cJ9_min_7cf53 2 (some .int) ∈ UW := ⟨mw_2_116, mw_1_7, mw_2_117⟩
theorem hdJ0_init_db425 : yJ0_init_db425.cls ≠ "java/lang/invoke/MethodHandle" ∧ yJ0_init_db425.cls ≠ "java/lang/invoke/VarHandle" ∧ (parseMethodDescriptor yJ0_init_db425.desc).map (fun d => d.parameters.length) = some 2 := by decide +kernel
theorem hdJ0_init_81219 : yJ0_init_81219.cls ≠ "java/lang/invoke/MethodHandle" ∧ yJ0_init_81219.cls ≠ "java/lang/invoke/VarHandle" ∧ (parseMethodDescriptor yJ0_init_81219.desc).map (fun d => d.parameters.length) = some 1 := by decide +kernel
theorem hdJ0_charAt_5068e : yJ0_charAt_5068e.cls = RJ0 ∧ yJ0_charAt_5068e.cls ≠ "java/lang/invoke/MethodHandle" ∧ yJ0_charAt_5068e.cls ≠ "java/lang/invoke/VarHandle" ∧ (parseMethodDescriptor yJ0_charAt_5068e.desc).map (fun d => d.parameters.length) = some 1 := by decide +kernel
theorem hcJ0_charAt_5068e : Cond.instanceMethod yJ0_charAt_5068e ∈ UW ∧ Cond.selects RJ0 yJ0_charAt_5068e yJ0_charAt_5068e ∈ UW ∧ Cond.initialized RJ0 ∈ UW ∧ Cond.code yJ0_charAt_5068e cJ0_charAt_5068e 2 (some .char) ∈ UW := ⟨mw_3_164, mw_3_165, mw_1_4, mw_3_166⟩
theorem hdJ0_checkBoundsBeginEnd_23922 : yJ0_checkBoundsBeginEnd_23922.cls ≠ "java/lang/invoke/MethodHandle" ∧ yJ0_checkBoundsBeginEnd_23922.cls ≠ "java/lang/invoke/VarHandle" ∧ (parseMethodDescriptor yJ0_checkBoundsBeginEnd_23922.desc).map (fun d => d.parameters.length) = some 3 := by decide +kernel
theorem hcJ0_checkBoundsBeginEnd_23922 : Cond.static yJ0_checkBoundsBeginEnd_23922 ∈ UW ∧ Cond.initialized yJ0_checkBoundsBeginEnd_23922.cls ∈ UW ∧ Cond.code yJ0_checkBoundsBeginEnd_23922 cJ0_checkBoundsBeginEnd_23922 3 none ∈ UW := ⟨mw_5_22, mw_1_4, mw_5_23⟩
theorem hdJ0_checkBoundsOffCount_cabcc : yJ0_checkBoundsOffCount_cabcc.cls ≠ "java/lang/invoke/MethodHandle" ∧ yJ0_checkBoundsOffCount_cabcc.cls ≠ "java/lang/invoke/VarHandle" ∧ (parseMethodDescriptor yJ0_checkBoundsOffCount_cabcc.desc).map (fun d => d.parameters.length) = some 3 := by decide +kernel
theorem hcJ0_checkBoundsOffCount_cabcc : Cond.static yJ0_checkBoundsOffCount_cabcc ∈ UW ∧ Cond.initialized yJ0_checkBoundsOffCount_cabcc.cls ∈ UW ∧ Cond.code yJ0_checkBoundsOffCount_cabcc cJ0_checkBoundsOffCount_cabcc 3 (some .int) ∈ UW := ⟨mw_5_52, mw_1_4, mw_5_53⟩
theorem hdJ0_checkIndex_df160 : yJ0_checkIndex_df160.cls ≠ "java/lang/invoke/MethodHandle" ∧ yJ0_checkIndex_df160.cls ≠ "java/lang/invoke/VarHandle" ∧ (parseMethodDescriptor yJ0_checkIndex_df160.desc).map (fun d => d.parameters.length) = some 2 := by decide +kernel
theorem hcJ0_checkIndex_df160 : Cond.static yJ0_checkIndex_df160 ∈ UW ∧ Cond.initialized yJ0_checkIndex_df160.cls ∈ UW ∧ Cond.code yJ0_checkIndex_df160 cJ0_checkIndex_df160 2 none ∈ UW := ⟨mw_3_175, mw_1_4, mw_3_176⟩
theorem hdJ0_coder_7d493 : yJ0_coder_7d493.cls = RJ0 ∧ yJ0_coder_7d493.cls ≠ "java/lang/invoke/MethodHandle" ∧ yJ0_coder_7d493.cls ≠ "java/lang/invoke/VarHandle" ∧ (parseMethodDescriptor yJ0_coder_7d493.desc).map (fun d => d.parameters.length) = some 0 := by decide +kernel
theorem hcJ0_coder_7d493 : Cond.instanceMethod yJ0_coder_7d493 ∈ UW ∧ Cond.selects RJ0 yJ0_coder_7d493 yJ0_coder_7d493 ∈ UW ∧ Cond.initialized RJ0 ∈ UW ∧ Cond.code yJ0_coder_7d493 cJ0_coder_7d493 1 (some .byte) ∈ UW := ⟨mw_3_158, mw_3_159, mw_1_4, mw_3_160⟩
theorem hdJ0_getBytes_840e7 : yJ0_getBytes_840e7.cls = RJ0 ∧ yJ0_getBytes_840e7.cls ≠ "java/lang/invoke/MethodHandle" ∧ yJ0_getBytes_840e7.cls ≠ "java/lang/invoke/VarHandle" ∧ (parseMethodDescriptor yJ0_getBytes_840e7.desc).map (fun d => d.parameters.length) = some 3 := by decide +kernel
theorem hcJ0_getBytes_840e7 : Cond.instanceMethod yJ0_getBytes_840e7 ∈ UW ∧ Cond.selects RJ0 yJ0_getBytes_840e7 yJ0_getBytes_840e7 ∈ UW ∧ Cond.initialized RJ0 ∈ UW ∧ Cond.code yJ0_getBytes_840e7 cJ0_getBytes_840e7 4 none ∈ UW := ⟨mw_5_58, mw_5_59, mw_1_4, mw_5_60⟩
theorem hdJ0_isLatin1_aae02 : yJ0_isLatin1_aae02.cls = RJ0 ∧ yJ0_isLatin1_aae02.cls ≠ "java/lang/invoke/MethodHandle" ∧ yJ0_isLatin1_aae02.cls ≠ "java/lang/invoke/VarHandle" ∧ (parseMethodDescriptor yJ0_isLatin1_aae02.desc).map (fun d => d.parameters.length) = some 0 := by decide +kernel
theorem hcJ0_isLatin1_aae02 : Cond.instanceMethod yJ0_isLatin1_aae02 ∈ UW ∧ Cond.selects RJ0 yJ0_isLatin1_aae02 yJ0_isLatin1_aae02 ∈ UW ∧ Cond.initialized RJ0 ∈ UW ∧ Cond.code yJ0_isLatin1_aae02 cJ0_isLatin1_aae02 1 (some .boolean) ∈ UW := ⟨mw_3_168, mw_3_169, mw_1_4, mw_3_170⟩
theorem hdJ0_length_8abf5 : yJ0_length_8abf5.cls = RJ0 ∧ yJ0_length_8abf5.cls ≠ "java/lang/invoke/MethodHandle" ∧ yJ0_length_8abf5.cls ≠ "java/lang/invoke/VarHandle" ∧ (parseMethodDescriptor yJ0_length_8abf5.desc).map (fun d => d.parameters.length) = some 0 := by decide +kernel
theorem hcJ0_length_8abf5 : Cond.instanceMethod yJ0_length_8abf5 ∈ UW ∧ Cond.selects RJ0 yJ0_length_8abf5 yJ0_length_8abf5 ∈ UW ∧ Cond.initialized RJ0 ∈ UW ∧ Cond.code yJ0_length_8abf5 cJ0_length_8abf5 1 (some .int) ∈ UW := ⟨mw_3_154, mw_3_155, mw_1_4, mw_3_156⟩
theorem hdJ4_init_da8c8 : yJ4_init_da8c8.cls ≠ "java/lang/invoke/MethodHandle" ∧ yJ4_init_da8c8.cls ≠ "java/lang/invoke/VarHandle" ∧ (parseMethodDescriptor yJ4_init_da8c8.desc).map (fun d => d.parameters.length) = some 0 := by decide +kernel
theorem hdJ4_init_a7421 : yJ4_init_a7421.cls ≠ "java/lang/invoke/MethodHandle" ∧ yJ4_init_a7421.cls ≠ "java/lang/invoke/VarHandle" ∧ (parseMethodDescriptor yJ4_init_a7421.desc).map (fun d => d.parameters.length) = some 1 := by decide +kernel
theorem hdJ4_append_cf468 : yJ4_append_cf468.cls = RJ4 ∧ yJ4_append_cf468.cls ≠ "java/lang/invoke/MethodHandle" ∧ yJ4_append_cf468.cls ≠ "java/lang/invoke/VarHandle" ∧ (parseMethodDescriptor yJ4_append_cf468.desc).map (fun d => d.parameters.length) = some 1 := by decide +kernel
theorem hcJ4_append_cf468 : Cond.instanceMethod yJ4_append_cf468 ∈ UW ∧ Cond.selects RJ4 yJ4_append_cf468 yJ4_append_cf468 ∈ UW ∧ Cond.initialized RJ4 ∈ UW ∧ Cond.code yJ4_append_cf468 cJ4_append_cf468 2 (some (.object "java/lang/StringBuilder")) ∈ UW := ⟨mw_5_65, mw_5_66, mw_1_3, mw_5_67⟩
theorem hdJ4_append_bf812 : yJ4_append_bf812.cls = RJ4 ∧ yJ4_append_bf812.cls ≠ "java/lang/invoke/MethodHandle" ∧ yJ4_append_bf812.cls ≠ "java/lang/invoke/VarHandle" ∧ (parseMethodDescriptor yJ4_append_bf812.desc).map (fun d => d.parameters.length) = some 1 := by decide +kernel
theorem hcJ4_append_bf812 : Cond.instanceMethod yJ4_append_bf812 ∈ UW ∧ Cond.selects RJ4 yJ4_append_bf812 yJ4_append_bf812 ∈ UW ∧ Cond.initialized RJ4 ∈ UW ∧ Cond.code yJ4_append_bf812 cJ4_append_bf812 2 (some (.object "java/lang/StringBuilder")) ∈ UW := ⟨mw_5_78, mw_5_79, mw_1_3, mw_5_80⟩
theorem hdJ4_append_cf1ce : yJ4_append_cf1ce.cls = RJ4 ∧ yJ4_append_cf1ce.cls ≠ "java/lang/invoke/MethodHandle" ∧ yJ4_append_cf1ce.cls ≠ "java/lang/invoke/VarHandle" ∧ (parseMethodDescriptor yJ4_append_cf1ce.desc).map (fun d => d.parameters.length) = some 1 := by decide +kernel
theorem hdJ4_append_15ec4 : yJ4_append_15ec4.cls = RJ4 ∧ yJ4_append_15ec4.cls ≠ "java/lang/invoke/MethodHandle" ∧ yJ4_append_15ec4.cls ≠ "java/lang/invoke/VarHandle" ∧ (parseMethodDescriptor yJ4_append_15ec4.desc).map (fun d => d.parameters.length) = some 1 := by decide +kernel
theorem hcJ4_append_15ec4 : Cond.instanceMethod yJ4_append_15ec4 ∈ UW ∧ Cond.selects RJ4 yJ4_append_15ec4 yJ4_append_15ec4 ∈ UW ∧ Cond.initialized RJ4 ∈ UW ∧ Cond.code yJ4_append_15ec4 cJ4_append_15ec4 2 (some (.object "java/lang/StringBuilder")) ∈ UW := ⟨mw_4_213, mw_4_214, mw_1_3, mw_4_215⟩
theorem hdJ4_length_8abf5 : yJ4_length_8abf5.cls = RJ4 ∧ yJ4_length_8abf5.cls ≠ "java/lang/invoke/MethodHandle" ∧ yJ4_length_8abf5.cls ≠ "java/lang/invoke/VarHandle" ∧ (parseMethodDescriptor yJ4_length_8abf5.desc).map (fun d => d.parameters.length) = some 0 := by decide +kernel
theorem hdJ4_toString_0e30d : yJ4_toString_0e30d.cls = RJ4 ∧ yJ4_toString_0e30d.cls ≠ "java/lang/invoke/MethodHandle" ∧ yJ4_toString_0e30d.cls ≠ "java/lang/invoke/VarHandle" ∧ (parseMethodDescriptor yJ4_toString_0e30d.desc).map (fun d => d.parameters.length) = some 0 := by decide +kernel
theorem hcJ4_toString_0e30d : Cond.instanceMethod yJ4_toString_0e30d ∈ UW ∧ Cond.selects RJ4 yJ4_toString_0e30d yJ4_toString_0e30d ∈ UW ∧ Cond.initialized RJ4 ∈ UW ∧ Cond.code yJ4_toString_0e30d cJ4_toString_0e30d 1 (some (.object "java/lang/String")) ∈ UW := ⟨mw_5_103, mw_5_104, mw_1_3, mw_5_105⟩
theorem hdJ1_canEncode_fc78d : yJ1_canEncode_fc78d.cls ≠ "java/lang/invoke/MethodHandle" ∧ yJ1_canEncode_fc78d.cls ≠ "java/lang/invoke/VarHandle" ∧ (parseMethodDescriptor yJ1_canEncode_fc78d.desc).map (fun d => d.parameters.length) = some 1 := by decide +kernel
theorem hcJ1_canEncode_fc78d : Cond.static yJ1_canEncode_fc78d ∈ UW ∧ Cond.initialized yJ1_canEncode_fc78d.cls ∈ UW ∧ Cond.code yJ1_canEncode_fc78d cJ1_canEncode_fc78d 1 (some .boolean) ∈ UW := ⟨mw_5_72, mw_1_11, mw_5_73⟩
theorem hdJ1_charAt_3b067 : yJ1_charAt_3b067.cls ≠ "java/lang/invoke/MethodHandle" ∧ yJ1_charAt_3b067.cls ≠ "java/lang/invoke/VarHandle" ∧ (parseMethodDescriptor yJ1_charAt_3b067.desc).map (fun d => d.parameters.length) = some 2 := by decide +kernel
theorem hcJ1_charAt_3b067 : Cond.static yJ1_charAt_3b067 ∈ UW ∧ Cond.initialized yJ1_charAt_3b067.cls ∈ UW ∧ Cond.code yJ1_charAt_3b067 cJ1_charAt_3b067 2 (some .char) ∈ UW := ⟨mw_3_172, mw_1_11, mw_3_173⟩
theorem hdJ1_inflate_0e8fd : yJ1_inflate_0e8fd.cls ≠ "java/lang/invoke/MethodHandle" ∧ yJ1_inflate_0e8fd.cls ≠ "java/lang/invoke/VarHandle" ∧ (parseMethodDescriptor yJ1_inflate_0e8fd.desc).map (fun d => d.parameters.length) = some 5 := by decide +kernel
theorem hcJ1_inflate_0e8fd : Cond.static yJ1_inflate_0e8fd ∈ UW ∧ Cond.initialized yJ1_inflate_0e8fd.cls ∈ UW ∧ Cond.code yJ1_inflate_0e8fd cJ1_inflate_0e8fd 5 none ∈ UW := ⟨mw_5_43, mw_1_11, mw_5_44⟩
theorem hdJ7_checkLength_df160 : yJ7_checkLength_df160.cls ≠ "java/lang/invoke/MethodHandle" ∧ yJ7_checkLength_df160.cls ≠ "java/lang/invoke/VarHandle" ∧ (parseMethodDescriptor yJ7_checkLength_df160.desc).map (fun d => d.parameters.length) = some 2 := by decide +kernel
theorem hcJ7_checkLength_df160 : Cond.static yJ7_checkLength_df160 ∈ UW ∧ Cond.initialized yJ7_checkLength_df160.cls ∈ UW ∧ Cond.code yJ7_checkLength_df160 cJ7_checkLength_df160 2 none ∈ UW := ⟨mw_5_136, mw_1_8, mw_5_137⟩
theorem hdJ7_copyOf_9075b : yJ7_copyOf_9075b.cls ≠ "java/lang/invoke/MethodHandle" ∧ yJ7_copyOf_9075b.cls ≠ "java/lang/invoke/VarHandle" ∧ (parseMethodDescriptor yJ7_copyOf_9075b.desc).map (fun d => d.parameters.length) = some 2 := by decide +kernel
theorem hcJ7_copyOf_9075b : Cond.static yJ7_copyOf_9075b ∈ UW ∧ Cond.initialized yJ7_copyOf_9075b.cls ∈ UW ∧ Cond.code yJ7_copyOf_9075b cJ7_copyOf_9075b 3 (some (.array .byte)) ∈ UW := ⟨mw_4_239, mw_1_8, mw_5_0⟩
theorem hdJ7_copyOfRange_39247 : yJ7_copyOfRange_39247.cls ≠ "java/lang/invoke/MethodHandle" ∧ yJ7_copyOfRange_39247.cls ≠ "java/lang/invoke/VarHandle" ∧ (parseMethodDescriptor yJ7_copyOfRange_39247.desc).map (fun d => d.parameters.length) = some 3 := by decide +kernel
theorem hcJ7_copyOfRange_39247 : Cond.static yJ7_copyOfRange_39247 ∈ UW ∧ Cond.initialized yJ7_copyOfRange_39247.cls ∈ UW ∧ Cond.code yJ7_copyOfRange_39247 cJ7_copyOfRange_39247 3 (some (.array .byte)) ∈ UW := ⟨mw_5_130, mw_1_8, mw_5_131⟩
theorem hdJ7_copyOfRangeByte_39247 : yJ7_copyOfRangeByte_39247.cls ≠ "java/lang/invoke/MethodHandle" ∧ yJ7_copyOfRangeByte_39247.cls ≠ "java/lang/invoke/VarHandle" ∧ (parseMethodDescriptor yJ7_copyOfRangeByte_39247.desc).map (fun d => d.parameters.length) = some 3 := by decide +kernel
theorem hcJ7_copyOfRangeByte_39247 : Cond.static yJ7_copyOfRangeByte_39247 ∈ UW ∧ Cond.initialized yJ7_copyOfRangeByte_39247.cls ∈ UW ∧ Cond.code yJ7_copyOfRangeByte_39247 cJ7_copyOfRangeByte_39247 5 (some (.array .byte)) ∈ UW := ⟨mw_5_133, mw_1_8, mw_5_134⟩
theorem hdJ8_hugeLength_7cf53 : yJ8_hugeLength_7cf53.cls ≠ "java/lang/invoke/MethodHandle" ∧ yJ8_hugeLength_7cf53.cls ≠ "java/lang/invoke/VarHandle" ∧ (parseMethodDescriptor yJ8_hugeLength_7cf53.desc).map (fun d => d.parameters.length) = some 2 := by decide +kernel
theorem hcJ8_hugeLength_7cf53 : Cond.static yJ8_hugeLength_7cf53 ∈ UW ∧ Cond.initialized yJ8_hugeLength_7cf53.cls ∈ UW ∧ Cond.code yJ8_hugeLength_7cf53 cJ8_hugeLength_7cf53 3 (some .int) ∈ UW := ⟨mw_4_236, mw_1_6, mw_4_237⟩
theorem hdJ8_newLength_cabcc : yJ8_newLength_cabcc.cls ≠ "java/lang/invoke/MethodHandle" ∧ yJ8_newLength_cabcc.cls ≠ "java/lang/invoke/VarHandle" ∧ (parseMethodDescriptor yJ8_newLength_cabcc.desc).map (fun d => d.parameters.length) = some 3 := by decide +kernel
theorem hcJ8_newLength_cabcc : Cond.static yJ8_newLength_cabcc ∈ UW ∧ Cond.initialized yJ8_newLength_cabcc.cls ∈ UW ∧ Cond.code yJ8_newLength_cabcc cJ8_newLength_cabcc 4 (some .int) ∈ UW := ⟨mw_4_231, mw_1_6, mw_4_232⟩
theorem hdJ3_checkFromIndexSize_8c36e : yJ3_checkFromIndexSize_8c36e.cls ≠ "java/lang/invoke/MethodHandle" ∧ yJ3_checkFromIndexSize_8c36e.cls ≠ "java/lang/invoke/VarHandle" ∧ (parseMethodDescriptor yJ3_checkFromIndexSize_8c36e.desc).map (fun d => d.parameters.length) = some 4 := by decide +kernel
theorem hcJ3_checkFromIndexSize_8c36e : Cond.static yJ3_checkFromIndexSize_8c36e ∈ UW ∧ Cond.initialized yJ3_checkFromIndexSize_8c36e.cls ∈ UW ∧ Cond.code yJ3_checkFromIndexSize_8c36e cJ3_checkFromIndexSize_8c36e 4 (some .int) ∈ UW := ⟨mw_5_55, mw_1_10, mw_5_56⟩
theorem hdJ3_checkFromToIndex_8c36e : yJ3_checkFromToIndex_8c36e.cls ≠ "java/lang/invoke/MethodHandle" ∧ yJ3_checkFromToIndex_8c36e.cls ≠ "java/lang/invoke/VarHandle" ∧ (parseMethodDescriptor yJ3_checkFromToIndex_8c36e.desc).map (fun d => d.parameters.length) = some 4 := by decide +kernel
theorem hcJ3_checkFromToIndex_8c36e : Cond.static yJ3_checkFromToIndex_8c36e ∈ UW ∧ Cond.initialized yJ3_checkFromToIndex_8c36e.cls ∈ UW ∧ Cond.code yJ3_checkFromToIndex_8c36e cJ3_checkFromToIndex_8c36e 4 (some .int) ∈ UW := ⟨mw_5_25, mw_1_10, mw_5_26⟩
theorem hdJ3_checkIndex_8e157 : yJ3_checkIndex_8e157.cls ≠ "java/lang/invoke/MethodHandle" ∧ yJ3_checkIndex_8e157.cls ≠ "java/lang/invoke/VarHandle" ∧ (parseMethodDescriptor yJ3_checkIndex_8e157.desc).map (fun d => d.parameters.length) = some 3 := by decide +kernel
theorem hcJ3_checkIndex_8e157 : Cond.static yJ3_checkIndex_8e157 ∈ UW ∧ Cond.initialized yJ3_checkIndex_8e157.cls ∈ UW ∧ Cond.code yJ3_checkIndex_8e157 cJ3_checkIndex_8e157 3 (some .int) ∈ UW := ⟨mw_3_180, mw_1_10, mw_3_181⟩
theorem hinX0 : ∀ w ∈ u_ws RX0 TX0 14, w ∈ UW := by
  intro w hw
  obtain ⟨k, hk, rfl⟩ := List.mem_map.mp hw
  have hk := List.mem_range.mp hk
  match k, hk with
  | 0, _ => exact mw_1_90
  | 1, _ => exact mw_1_92
  | 2, _ => exact mw_1_94
  | 3, _ => exact mw_1_96
  | 4, _ => exact mw_1_98
  | 5, _ => exact mw_1_100
  | 6, _ => exact mw_1_102
  | 7, _ => exact mw_1_104
  | 8, _ => exact mw_1_106
  | 9, _ => exact mw_1_108
  | 10, _ => exact mw_1_110
  | 11, _ => exact mw_1_112
  | 12, _ => exact mw_1_114
  | 13, _ => exact mw_1_116
  | k + 14, h => exact absurd h (by omega)
theorem hinX1 : ∀ w ∈ u_ws RX1 TX1 3, w ∈ UW := by
  intro w hw
  obtain ⟨k, hk, rfl⟩ := List.mem_map.mp hw
  have hk := List.mem_range.mp hk
  match k, hk with
  | 0, _ => exact mw_1_204
  | 1, _ => exact mw_1_206
  | 2, _ => exact mw_1_208
  | k + 3, h => exact absurd h (by omega)
theorem hinX2 : ∀ w ∈ u_ws RX2 TX2 2, w ∈ UW := by
  intro w hw
  obtain ⟨k, hk, rfl⟩ := List.mem_map.mp hw
  have hk := List.mem_range.mp hk
  match k, hk with
  | 0, _ => exact mw_1_227
  | 1, _ => exact mw_1_229
  | k + 2, h => exact absurd h (by omega)
theorem hinX3 : ∀ w ∈ u_ws RX3 TX3 5, w ∈ UW := by
  intro w hw
  obtain ⟨k, hk, rfl⟩ := List.mem_map.mp hw
  have hk := List.mem_range.mp hk
  match k, hk with
  | 0, _ => exact mw_2_0
  | 1, _ => exact mw_2_2
  | 2, _ => exact mw_2_4
  | 3, _ => exact mw_2_6
  | 4, _ => exact mw_2_8
  | k + 5, h => exact absurd h (by omega)
theorem hinX4 : ∀ w ∈ u_ws RX4 TX4 2, w ∈ UW := by
  intro w hw
  obtain ⟨k, hk, rfl⟩ := List.mem_map.mp hw
  have hk := List.mem_range.mp hk
  match k, hk with
  | 0, _ => exact mw_1_152
  | 1, _ => exact mw_1_154
  | k + 2, h => exact absurd h (by omega)
theorem hinX5 : ∀ w ∈ u_ws RX5 TX5 10, w ∈ UW := by
  intro w hw
  obtain ⟨k, hk, rfl⟩ := List.mem_map.mp hw
  have hk := List.mem_range.mp hk
  match k, hk with
  | 0, _ => exact mw_1_169
  | 1, _ => exact mw_1_171
  | 2, _ => exact mw_1_173
  | 3, _ => exact mw_1_175
  | 4, _ => exact mw_1_177
  | 5, _ => exact mw_1_179
  | 6, _ => exact mw_1_181
  | 7, _ => exact mw_1_183
  | 8, _ => exact mw_1_185
  | 9, _ => exact mw_1_187
  | k + 10, h => exact absurd h (by omega)
theorem hinX6 : ∀ w ∈ u_ws RX6 TX6 5, w ∈ UW := by
  intro w hw
  obtain ⟨k, hk, rfl⟩ := List.mem_map.mp hw
  have hk := List.mem_range.mp hk
  match k, hk with
  | 0, _ => exact mw_1_135
  | 1, _ => exact mw_1_137
  | 2, _ => exact mw_1_139
  | 3, _ => exact mw_1_141
  | 4, _ => exact mw_1_143
  | k + 5, h => exact absurd h (by omega)
theorem hinX7 : ∀ w ∈ u_ws RX7 TX7 12, w ∈ UW := by
  intro w hw
  obtain ⟨k, hk, rfl⟩ := List.mem_map.mp hw
  have hk := List.mem_range.mp hk
  match k, hk with
  | 0, _ => exact mw_2_23
  | 1, _ => exact mw_2_25
  | 2, _ => exact mw_2_27
  | 3, _ => exact mw_2_29
  | 4, _ => exact mw_2_31
  | 5, _ => exact mw_2_33
  | 6, _ => exact mw_2_35
  | 7, _ => exact mw_2_37
  | 8, _ => exact mw_2_39
  | 9, _ => exact mw_2_41
  | 10, _ => exact mw_2_43
  | 11, _ => exact mw_2_45
  | k + 12, h => exact absurd h (by omega)
theorem hinX8 : ∀ w ∈ u_ws RX8 TX8 8, w ∈ UW := by
  intro w hw
  obtain ⟨k, hk, rfl⟩ := List.mem_map.mp hw
  have hk := List.mem_range.mp hk
  match k, hk with
  | 0, _ => exact mw_3_97
  | 1, _ => exact mw_3_99
  | 2, _ => exact mw_3_101
  | 3, _ => exact mw_3_103
  | 4, _ => exact mw_3_105
  | 5, _ => exact mw_3_107
  | 6, _ => exact mw_3_109
  | 7, _ => exact mw_3_111
  | k + 8, h => exact absurd h (by omega)
section
variable {p : Program} {l : Launch} {e : Env} {R : Room} {s : State} {m : MethodId} {args : Array Value} {below : List Frame} {meth : Method} {c : Code} {H : Heap} {locs : List Loc} {cells slots : Nat} {Q : State → Prop} {g : Gx} {A : Nat → Prop}
theorem k_ldcSw {cc : ByteArray} (hexec : p.tables.exec = Jvm.exec) (hb : c.code = cc) {own tx : String} {index q : Nat} (hown : s.vm.findClass own = some m.cls) (hZ : vk_R own index tx q s) {pc : Nat} {ls : Array Slot} {rest : List Value} (hdg : decode cc pc = .ok (.ldc_w index, 3))
    (k : W p l e R s m args below meth c H locs cells slots Q (F0 m (pc + 3) ls (.ref q :: rest))) : W p l e R s m args below meth c H locs cells slots Q (F0 m pc ls rest) := by
  intro T hT X
  obtain ⟨t, a1, b1⟩ := k T hT X
  exact ⟨t, X.ldcStringW hexec hown (text := tx) (a := q) hZ.1 hZ.2 (g := F0 m pc ls rest) rfl (by rw [hb]; exact hdg) t a1, b1⟩
theorem k_free {ws : va_W} (hD : va_D A ws) (hS : va_S A s.heap H locs) (hA : ∀ q, s.heap.size ≤ q → A q) : ∀ q, va_A ws H.size q → A q := by
  intro q h
  rcases h with ⟨k, e, h⟩ | h
  · exact hD.2 k _ h
  · exact hA q (Nat.le_trans hS.1 h)
theorem k_blind {av : List Value} {w0 : va_W} {sz : Nat} : FrameBlind (va_Pc av (wB g w0 sz)) := fun a U g9 mk q => by
  obtain ⟨q0, q1, qP, qK, qD, qG⟩ := q
  exact ⟨q0, q1, qP, va_K.moved (u := U) (U := U.calling g9 mk a) (Vm.Alike.refl U.vm) qK, qD, BG.same (u := U) (U := U.calling g9 mk a) rfl qG⟩
theorem k_iret {cc : ByteArray} {r x : Int32} {w1 : va_W} (hx : p.tables.exec = Jvm.exec) (hb : c.code = cc) (hr : meth.sig.returnType = some .int) (hlocks : meth.locks = false) (hK : va_K g.1 vwCl (tyL g) s) (hP : va_P g.1 vwCl w1 H) (hD : va_D A w1) (hS : va_S A s.heap H locs) (hxr : x = r) {pc : Nat} {ls : Array Slot} (hdg : decode cc pc = .ok (.ireturn, 1)) : W p l e R s m args below meth c H locs cells slots (MQ below (qI g A w1 r) args s cells slots A) (F0 m pc ls [.int x]) :=
  W.iret hx hb hr (fun t ht hW => ⟨⟨x, (), rfl, hxr, by rw [ht]; exact hP, va_K.moved hW.alike hK, hD⟩, hS.F ht⟩) hS.2.2 hdg (hlocks := hlocks)
theorem k_zret {cc : ByteArray} {r x : Int32} {w1 : va_W} (hx : p.tables.exec = Jvm.exec) (hb : c.code = cc) (hr : meth.sig.returnType = some .boolean) (hlocks : meth.locks = false) (hK : va_K g.1 vwCl (tyL g) s) (hP : va_P g.1 vwCl w1 H) (hD : va_D A w1) (hS : va_S A s.heap H locs) (hxr : x = r) (h01 : x = 0 ∨ x = 1) {pc : Nat} {ls : Array Slot} (hdg : decode cc pc = .ok (.ireturn, 1)) : W p l e R s m args below meth c H locs cells slots (MQ below (qI g A w1 r) args s cells slots A) (F0 m pc ls [.int x]) :=
  W.zret hx hb hr (by rcases h01 with h | h <;> rw [h] <;> rfl) (fun t ht hW => ⟨⟨x, (), rfl, hxr, by rw [ht]; exact hP, va_K.moved hW.alike hK, hD⟩, hS.F ht⟩) hS.2.2 hdg (hlocks := hlocks)
theorem k_nret {cc : ByteArray} {r x : Int32} {w1 : va_W} {ty : FieldType} (hx : p.tables.exec = Jvm.exec) (hb : c.code = cc) (hr : meth.sig.returnType = some ty) (hlocks : meth.locks = false) (hK : va_K g.1 vwCl (tyL g) s) (hP : va_P g.1 vwCl w1 H) (hD : va_D A w1) (hS : va_S A s.heap H locs) (hxr : x = r) (hn : narrow ty (.int x) = .int x) {pc : Nat} {ls : Array Slot} (hdg : decode cc pc = .ok (.ireturn, 1)) : W p l e R s m args below meth c H locs cells slots (MQ below (qI g A w1 r) args s cells slots A) (F0 m pc ls [.int x]) :=
  W.zret hx hb hr hn (fun t ht hW => ⟨⟨x, (), rfl, hxr, by rw [ht]; exact hP, va_K.moved hW.alike hK, hD⟩, hS.F ht⟩) hS.2.2 hdg (hlocks := hlocks)
theorem k_lret {cc : ByteArray} {r x : Int64} {w1 : va_W} (hx : p.tables.exec = Jvm.exec) (hb : c.code = cc) (hr : meth.sig.returnType = some .long) (hlocks : meth.locks = false) (hK : va_K g.1 vwCl (tyL g) s) (hP : va_P g.1 vwCl w1 H) (hD : va_D A w1) (hS : va_S A s.heap H locs) (hxr : x = r) {pc : Nat} {ls : Array Slot} (hdg : decode cc pc = .ok (.lreturn, 1)) : W p l e R s m args below meth c H locs cells slots (MQ below (qJ g A w1 r) args s cells slots A) (F0 m pc ls [.long x]) :=
  W.lret hx hb hr (fun t ht hW => ⟨⟨x, (), rfl, hxr, by rw [ht]; exact hP, va_K.moved hW.alike hK, hD⟩, hS.F ht⟩) hS.2.2 hdg (hlocks := hlocks)
theorem k_dret {cc : ByteArray} {r x : UInt64} {w1 : va_W} (hx : p.tables.exec = Jvm.exec) (hb : c.code = cc) (hr : meth.sig.returnType = some .double) (hlocks : meth.locks = false) (hK : va_K g.1 vwCl (tyL g) s) (hP : va_P g.1 vwCl w1 H) (hD : va_D A w1) (hS : va_S A s.heap H locs) (hxr : x = r) {pc : Nat} {ls : Array Slot} (hdg : decode cc pc = .ok (.dreturn, 1)) : W p l e R s m args below meth c H locs cells slots (MQ below (qD g A w1 r) args s cells slots A) (F0 m pc ls [.double x]) :=
  W.dret hx hb hr (fun t ht hW => ⟨⟨x, (), rfl, hxr, by rw [ht]; exact hP, va_K.moved hW.alike hK, hD⟩, hS.F ht⟩) hS.2.2 hdg (hlocks := hlocks)
theorem k_vret {cc : ByteArray} {w1 : va_W} (hx : p.tables.exec = Jvm.exec) (hb : c.code = cc) (hr : meth.sig.returnType = none) (hlocks : meth.locks = false) (hK : va_K g.1 vwCl (tyL g) s) (hP : va_P g.1 vwCl w1 H) (hD : va_D A w1) (hS : va_S A s.heap H locs) {pc : Nat} {ls : Array Slot} (hdg : decode cc pc = .ok (.return_, 1)) : W p l e R s m args below meth c H locs cells slots (MQ below (qV g A w1) args s cells slots A) (F0 m pc ls []) :=
  W.vret hx hb hr (fun t ht hW => ⟨⟨(), rfl, trivial, by rw [ht]; exact hP, va_K.moved hW.alike hK, hD⟩, hS.F ht⟩) hS.2.2 hdg (hlocks := hlocks)
theorem k_lt {ws : va_W} (hP : va_P g.1 vwCl ws H) {k : Nat} {q : Nat × va_E} (hq : ws[k]? = some q) : q.1 < H.size := vx_lt hP hq
theorem k_fm {ws wc : va_W} {is : List Nat} (h : is.map (fun i => ws[i]?) = wc.map some) : is.filterMap (fun i => ws[i]?) = wc := by
  induction is generalizing wc with
  | nil =>
    cases wc with
    | nil => rfl
    | cons a t => simp at h
  | cons i is ih =>
    cases wc with
    | nil => simp at h
    | cons a t =>
      simp only [List.map_cons, List.cons.injEq] at h
      rw [List.filterMap_cons, h.1]
      exact congrArg (a :: ·) (ih h.2)
theorem k_dsub {A0 : Nat → Prop} {ws wc : va_W} (hD : va_D A0 ws) (is : List Nat) (h : is.map (fun i => ws[i]?) = wc.map some) (hn : va_nd is = true) : va_D (fun _ => True) wc := (hD.sub is hn h).weaken (fun _ _ _ _ => trivial)
theorem k_siN {cc : ByteArray} {nL : Nat} {Ts : List Cond} {own : String} (S : CallFix p m c cc nL s args Ts own) {ws : va_W} (hK : va_K g.1 vwCl (tyL g) s) (hP : va_P g.1 vwCl ws H) (hD : va_D A ws) (hS : va_S A s.heap H locs) (hA : ∀ q, s.heap.size ≤ q → A q) (hG : BG g A s s.heap) {y : MethodName} {wy : List Cond} {rm : Room} {As : List Value} {r : Int32} {mc ms : Nat} (hM : CtI l y wy rm g As [] [] r mc ms) {index : Nat} {bytes : ByteArray} {maxL : Nat} {ret : Option FieldType} {n : Nat} {host : String} (cw : va_CN R s args own index y host bytes maxL ret wy rm mc ms n ∧ (Cond.static y).before args s = true ∧ True) {pc : Nat} {ls : Array Slot} {st rest : List Value} (hst : st = As.reverse ++ rest) (hn : As.length = n) (hsz : ls.size = nL) (hW : (rest.map fun v => v.category).sum ≤ 8) (hdg : decode cc pc = .ok (.invokestatic index, 3)) {k1 n1 : Nat} (hk : cells + mc = k1) (hns : slots + ms = n1) (hf : k1 ≤ R.cells ∧ n1 ≤ R.slots) (kk : ∀ (H1 : Heap) (locs1 : List Loc), va_P g.1 vwCl ws H1 → va_D A ws → va_S A s.heap H1 locs1 → W p l e R s m args below meth c H1 locs1 k1 n1 Q (F0 m (pc + 3) ls (.int r :: rest))) : W p l e R s m args below meth c H locs cells slots Q (F0 m pc ls st) := by
  subst hst; subst hk; subst hns
  have hFc : ∀ q, va_A [] H.size q → A q := va_free hD hS hA [] rfl
  refine va_calli (va_runSN (As := As) (rest := rest) S (hM H.size) cw ⟨k_blind, fun U hU hW => ⟨rfl, by rw [hU], (fun k q h => by simp at h), va_K.moved hW.alike hK, ⟨fun i j p q h => by simp at h, fun k q h => by simp at h⟩, by rw [hU]; exact BG.warm hW ((hG.kept hS.2.1).narrow hFc)⟩⟩ rfl hn hsz rfl (lv_room hW) hdg hf) hS (fun q _ h => hFc q h) hFc (fun r1 u t H1 locs1 ht hvm hw hB hz1 hk1 hS1 => ?_)
  obtain ⟨hP1, _, hD1⟩ := hB
  rw [ht] at hP1
  subst hw
  refine kk H1 locs1 (hP.kept (fun k q hq => hk1 q.1 (k_lt hP hq) ?_)) hD hS1
  intro h9
  rcases h9 with ⟨k9, e9, h9⟩ | h9
  · simp at h9
  · exact absurd (k_lt hP hq) (Nat.not_lt.mpr h9)
theorem k_viW {cc : ByteArray} {nL : Nat} {Ts : List Cond} {own : String} (S : CallFix p m c cc nL s args Ts own) {ws w1 : va_W} (hK : va_K g.1 vwCl (tyL g) s) (hP : va_P g.1 vwCl ws H) (hD : va_D A ws) (hS : va_S A s.heap H locs) (hA : ∀ q, s.heap.size ≤ q → A q) (hG : BG g A s s.heap) {y : MethodName} {wy : List Cond} {rm : Room} {As : List Value} {a : Nat} {r : Int32} {mc ms : Nat} (hM : CtI l y wy rm g (.ref a :: As) ws w1 r mc ms) {C : String} {index : Nat} {bytes : ByteArray} {maxL : Nat} {ret : Option FieldType} {n : Nat} (cw : CallW R s args own C index y bytes maxL ret wy rm mc ms n) {q0 ci : Nat} {fs : List Value} {q : vw_C} (hc : vwCl[ci]? = some q) (he : ws[q0]? = some (a, .inr (ci, fs))) (hq : q.1 = C) {pc : Nat} {ls : Array Slot} {st rest : List Value} (hst : st = As.reverse ++ .ref a :: rest) (hn : As.length = n) (hsz : ls.size = nL) (hW : (rest.map fun v => v.category).sum ≤ 8) (hdg : decode cc pc = .ok (.invokevirtual index, 3)) {k1 n1 : Nat} (hk : cells + mc = k1) (hns : slots + ms = n1) (hf : k1 ≤ R.cells ∧ n1 ≤ R.slots) (kk : ∀ (H1 : Heap) (locs1 : List Loc), va_P g.1 vwCl w1 H1 → va_D A w1 → va_S A s.heap H1 locs1 → W p l e R s m args below meth c H1 locs1 k1 n1 Q (F0 m (pc + 3) ls (.int r :: rest))) : W p l e R s m args below meth c H locs cells slots Q (F0 m pc ls st) := by
  subst hst; subst hk; subst hns
  subst hq
  have hFc := k_free hD hS hA
  refine va_calli (va_runV (As := As) (rest := rest) S (hM H.size) cw ⟨k_blind, va_recv hK hP hc he, fun U hU hW => ⟨rfl, by rw [hU], by rw [hU]; exact hP, va_K.moved hW.alike hK, hD.weaken (fun _ _ _ _ => trivial), by rw [hU]; exact BG.warm hW ((hG.kept hS.2.1).narrow hFc)⟩⟩ rfl hn hsz rfl (lv_room hW) hdg hf) hS (fun q _ h => hFc q h) hFc (fun r1 u t H1 locs1 ht hvm hw hB hz1 hk1 hS1 => ?_)
  obtain ⟨hP1, _, hD1⟩ := hB
  rw [ht] at hP1
  subst hw
  exact kk H1 locs1 hP1 (hD1.weaken (fun _ _ _ h => hFc _ h)) hS1
theorem k_viP {cc : ByteArray} {nL : Nat} {Ts : List Cond} {own : String} (S : CallFix p m c cc nL s args Ts own) {ws wc wr w1 w2 : va_W} (hK : va_K g.1 vwCl (tyL g) s) (hP : va_P g.1 vwCl ws H) (hD : va_D A ws) (hS : va_S A s.heap H locs) (hA : ∀ q, s.heap.size ≤ q → A q) (hG : BG g A s s.heap) {y : MethodName} {wy : List Cond} {rm : Room} {As : List Value} {a : Nat} {r : Int32} {mc ms : Nat} (hM : CtI l y wy rm g (.ref a :: As) wc w1 r mc ms) {C : String} {index : Nat} {bytes : ByteArray} {maxL : Nat} {ret : Option FieldType} {n : Nat} (cw : CallW R s args own C index y bytes maxL ret wy rm mc ms n) {q0 ci : Nat} {fs : List Value} {q : vw_C} (hc : vwCl[ci]? = some q) (he : ws[q0]? = some (a, .inr (ci, fs))) (hq : q.1 = C) (isC isR isP : List Nat) (hC : isC.map (fun i => ws[i]?) = wc.map some) (hR : isR.map (fun i => ws[i]?) = wr.map some) (hnC : va_nd isC = true) (hn1 : va_nd isR = true) (hdis : ∀ i ∈ isR, i ∉ isC) (hp1 : isP.filterMap (fun i => (wr ++ w1)[i]?) = w2) (hp2 : isP.map (fun i => (wr ++ w1)[i]?) = w2.map some) (hn2 : va_nd isP = true) {pc : Nat} {ls : Array Slot} {st rest : List Value} (hst : st = As.reverse ++ .ref a :: rest) (hn : As.length = n) (hsz : ls.size = nL) (hW : (rest.map fun v => v.category).sum ≤ 8) (hdg : decode cc pc = .ok (.invokevirtual index, 3)) {k1 n1 : Nat} (hk : cells + mc = k1) (hns : slots + ms = n1) (hf : k1 ≤ R.cells ∧ n1 ≤ R.slots) (kk : ∀ (H1 : Heap) (locs1 : List Loc), va_P g.1 vwCl w2 H1 → va_D A w2 → va_S A s.heap H1 locs1 → W p l e R s m args below meth c H1 locs1 k1 n1 Q (F0 m (pc + 3) ls (.int r :: rest))) : W p l e R s m args below meth c H locs cells slots Q (F0 m pc ls st) := by
  subst hst; subst hk; subst hns
  subst hq
  have hFc : ∀ q, va_A wc H.size q → A q := va_free hD hS hA isC hC
  have hPc : va_P g.1 vwCl wc H := hP.sub isC (k_fm hC)
  have hDc : va_D (fun _ => True) wc := k_dsub hD isC hC hnC
  refine va_calli (va_runV (As := As) (rest := rest) S (hM H.size) cw ⟨k_blind, va_recv hK hP hc he, fun U hU hW => ⟨rfl, by rw [hU], by rw [hU]; exact hPc, va_K.moved hW.alike hK, hDc, by rw [hU]; exact BG.warm hW ((hG.kept hS.2.1).narrow hFc)⟩⟩ rfl hn hsz rfl (lv_room hW) hdg hf) hS (fun q _ h => hFc q h) hFc (fun r1 u t H1 locs1 ht hvm hw hB hz1 hk1 hS1 => ?_)
  obtain ⟨hP1, _, hD1⟩ := hB
  rw [ht] at hP1
  subst hw
  obtain ⟨hP2, hD2⟩ := va_join hP hD isC isR hC hR hn1 hdis hk1 hFc hP1 hD1
  exact kk H1 locs1 (hP2.sub isP hp1) (hD2.sub isP hn2 hp2) hS1
theorem k_viS {cc : ByteArray} {nL : Nat} {Ts : List Cond} {own : String} (S : CallFix p m c cc nL s args Ts own) {ws : va_W} (hK : va_K g.1 vwCl (tyL g) s) (hP : va_P g.1 vwCl ws H) (hD : va_D A ws) (hS : va_S A s.heap H locs) (hA : ∀ q, s.heap.size ≤ q → A q) (hG : BG g A s s.heap) {y : MethodName} {wy : List Cond} {rm : Room} {As : List Value} {a : Nat} {r : Int32} {mc ms : Nat} (hM : CtI l y wy rm g (.ref a :: As) [] [] r mc ms) {C : String} {index : Nat} {bytes : ByteArray} {maxL : Nat} {ret : Option FieldType} {n : Nat} (cw : CallW R s args own C index y bytes maxL ret wy rm mc ms n) (hrc : ∃ cellB : Cell, H[a]? = some cellB ∧ cellB.vm.isStatics = false ∧ s.vm.findClass C = some cellB.cls) {pc : Nat} {ls : Array Slot} {st rest : List Value} (hst : st = As.reverse ++ .ref a :: rest) (hn : As.length = n) (hsz : ls.size = nL) (hW : (rest.map fun v => v.category).sum ≤ 8) (hdg : decode cc pc = .ok (.invokevirtual index, 3)) {k1 n1 : Nat} (hk : cells + mc = k1) (hns : slots + ms = n1) (hf : k1 ≤ R.cells ∧ n1 ≤ R.slots) (kk : ∀ (H1 : Heap) (locs1 : List Loc), va_P g.1 vwCl ws H1 → va_D A ws → va_S A s.heap H1 locs1 → W p l e R s m args below meth c H1 locs1 k1 n1 Q (F0 m (pc + 3) ls (.int r :: rest))) : W p l e R s m args below meth c H locs cells slots Q (F0 m pc ls st) := by
  subst hst; subst hk; subst hns
  have hFc : ∀ q, va_A [] H.size q → A q := va_free hD hS hA [] rfl
  refine va_calli (va_runV (As := As) (rest := rest) S (hM H.size) cw ⟨k_blind, hrc, fun U hU hW => ⟨rfl, by rw [hU], (fun k q h => by simp at h), va_K.moved hW.alike hK, ⟨fun i j p q h => by simp at h, fun k q h => by simp at h⟩, by rw [hU]; exact BG.warm hW ((hG.kept hS.2.1).narrow hFc)⟩⟩ rfl hn hsz rfl (lv_room hW) hdg hf) hS (fun q _ h => hFc q h) hFc (fun r1 u t H1 locs1 ht hvm hw hB hz1 hk1 hS1 => ?_)
  obtain ⟨hP1, _, hD1⟩ := hB
  rw [ht] at hP1
  subst hw
  refine kk H1 locs1 (hP.kept (fun k q hq => hk1 q.1 (k_lt hP hq) ?_)) hD hS1
  intro h9
  rcases h9 with ⟨k9, e9, h9⟩ | h9
  · simp at h9
  · exact absurd (k_lt hP hq) (Nat.not_lt.mpr h9)
theorem k_vlW {cc : ByteArray} {nL : Nat} {Ts : List Cond} {own : String} (S : CallFix p m c cc nL s args Ts own) {ws w1 : va_W} (hK : va_K g.1 vwCl (tyL g) s) (hP : va_P g.1 vwCl ws H) (hD : va_D A ws) (hS : va_S A s.heap H locs) (hA : ∀ q, s.heap.size ≤ q → A q) (hG : BG g A s s.heap) {y : MethodName} {wy : List Cond} {rm : Room} {As : List Value} {a : Nat} {r : Int64} {mc ms : Nat} (hM : CtJ l y wy rm g (.ref a :: As) ws w1 r mc ms) {C : String} {index : Nat} {bytes : ByteArray} {maxL : Nat} {ret : Option FieldType} {n : Nat} (cw : CallW R s args own C index y bytes maxL ret wy rm mc ms n) {q0 ci : Nat} {fs : List Value} {q : vw_C} (hc : vwCl[ci]? = some q) (he : ws[q0]? = some (a, .inr (ci, fs))) (hq : q.1 = C) {pc : Nat} {ls : Array Slot} {st rest : List Value} (hst : st = As.reverse ++ .ref a :: rest) (hn : As.length = n) (hsz : ls.size = nL) (hW : (rest.map fun v => v.category).sum ≤ 8) (hdg : decode cc pc = .ok (.invokevirtual index, 3)) {k1 n1 : Nat} (hk : cells + mc = k1) (hns : slots + ms = n1) (hf : k1 ≤ R.cells ∧ n1 ≤ R.slots) (kk : ∀ (H1 : Heap) (locs1 : List Loc), va_P g.1 vwCl w1 H1 → va_D A w1 → va_S A s.heap H1 locs1 → W p l e R s m args below meth c H1 locs1 k1 n1 Q (F0 m (pc + 3) ls (.long r :: rest))) : W p l e R s m args below meth c H locs cells slots Q (F0 m pc ls st) := by
  subst hst; subst hk; subst hns
  subst hq
  have hFc := k_free hD hS hA
  refine va_calll (va_runV (As := As) (rest := rest) S (hM H.size) cw ⟨k_blind, va_recv hK hP hc he, fun U hU hW => ⟨rfl, by rw [hU], by rw [hU]; exact hP, va_K.moved hW.alike hK, hD.weaken (fun _ _ _ _ => trivial), by rw [hU]; exact BG.warm hW ((hG.kept hS.2.1).narrow hFc)⟩⟩ rfl hn hsz rfl (lv_room hW) hdg hf) hS (fun q _ h => hFc q h) hFc (fun r1 u t H1 locs1 ht hvm hw hB hz1 hk1 hS1 => ?_)
  obtain ⟨hP1, _, hD1⟩ := hB
  rw [ht] at hP1
  subst hw
  exact kk H1 locs1 hP1 (hD1.weaken (fun _ _ _ h => hFc _ h)) hS1
theorem k_vlP {cc : ByteArray} {nL : Nat} {Ts : List Cond} {own : String} (S : CallFix p m c cc nL s args Ts own) {ws wc wr w1 w2 : va_W} (hK : va_K g.1 vwCl (tyL g) s) (hP : va_P g.1 vwCl ws H) (hD : va_D A ws) (hS : va_S A s.heap H locs) (hA : ∀ q, s.heap.size ≤ q → A q) (hG : BG g A s s.heap) {y : MethodName} {wy : List Cond} {rm : Room} {As : List Value} {a : Nat} {r : Int64} {mc ms : Nat} (hM : CtJ l y wy rm g (.ref a :: As) wc w1 r mc ms) {C : String} {index : Nat} {bytes : ByteArray} {maxL : Nat} {ret : Option FieldType} {n : Nat} (cw : CallW R s args own C index y bytes maxL ret wy rm mc ms n) {q0 ci : Nat} {fs : List Value} {q : vw_C} (hc : vwCl[ci]? = some q) (he : ws[q0]? = some (a, .inr (ci, fs))) (hq : q.1 = C) (isC isR isP : List Nat) (hC : isC.map (fun i => ws[i]?) = wc.map some) (hR : isR.map (fun i => ws[i]?) = wr.map some) (hnC : va_nd isC = true) (hn1 : va_nd isR = true) (hdis : ∀ i ∈ isR, i ∉ isC) (hp1 : isP.filterMap (fun i => (wr ++ w1)[i]?) = w2) (hp2 : isP.map (fun i => (wr ++ w1)[i]?) = w2.map some) (hn2 : va_nd isP = true) {pc : Nat} {ls : Array Slot} {st rest : List Value} (hst : st = As.reverse ++ .ref a :: rest) (hn : As.length = n) (hsz : ls.size = nL) (hW : (rest.map fun v => v.category).sum ≤ 8) (hdg : decode cc pc = .ok (.invokevirtual index, 3)) {k1 n1 : Nat} (hk : cells + mc = k1) (hns : slots + ms = n1) (hf : k1 ≤ R.cells ∧ n1 ≤ R.slots) (kk : ∀ (H1 : Heap) (locs1 : List Loc), va_P g.1 vwCl w2 H1 → va_D A w2 → va_S A s.heap H1 locs1 → W p l e R s m args below meth c H1 locs1 k1 n1 Q (F0 m (pc + 3) ls (.long r :: rest))) : W p l e R s m args below meth c H locs cells slots Q (F0 m pc ls st) := by
  subst hst; subst hk; subst hns
  subst hq
  have hFc : ∀ q, va_A wc H.size q → A q := va_free hD hS hA isC hC
  have hPc : va_P g.1 vwCl wc H := hP.sub isC (k_fm hC)
  have hDc : va_D (fun _ => True) wc := k_dsub hD isC hC hnC
  refine va_calll (va_runV (As := As) (rest := rest) S (hM H.size) cw ⟨k_blind, va_recv hK hP hc he, fun U hU hW => ⟨rfl, by rw [hU], by rw [hU]; exact hPc, va_K.moved hW.alike hK, hDc, by rw [hU]; exact BG.warm hW ((hG.kept hS.2.1).narrow hFc)⟩⟩ rfl hn hsz rfl (lv_room hW) hdg hf) hS (fun q _ h => hFc q h) hFc (fun r1 u t H1 locs1 ht hvm hw hB hz1 hk1 hS1 => ?_)
  obtain ⟨hP1, _, hD1⟩ := hB
  rw [ht] at hP1
  subst hw
  obtain ⟨hP2, hD2⟩ := va_join hP hD isC isR hC hR hn1 hdis hk1 hFc hP1 hD1
  exact kk H1 locs1 (hP2.sub isP hp1) (hD2.sub isP hn2 hp2) hS1
theorem k_vlS {cc : ByteArray} {nL : Nat} {Ts : List Cond} {own : String} (S : CallFix p m c cc nL s args Ts own) {ws : va_W} (hK : va_K g.1 vwCl (tyL g) s) (hP : va_P g.1 vwCl ws H) (hD : va_D A ws) (hS : va_S A s.heap H locs) (hA : ∀ q, s.heap.size ≤ q → A q) (hG : BG g A s s.heap) {y : MethodName} {wy : List Cond} {rm : Room} {As : List Value} {a : Nat} {r : Int64} {mc ms : Nat} (hM : CtJ l y wy rm g (.ref a :: As) [] [] r mc ms) {C : String} {index : Nat} {bytes : ByteArray} {maxL : Nat} {ret : Option FieldType} {n : Nat} (cw : CallW R s args own C index y bytes maxL ret wy rm mc ms n) (hrc : ∃ cellB : Cell, H[a]? = some cellB ∧ cellB.vm.isStatics = false ∧ s.vm.findClass C = some cellB.cls) {pc : Nat} {ls : Array Slot} {st rest : List Value} (hst : st = As.reverse ++ .ref a :: rest) (hn : As.length = n) (hsz : ls.size = nL) (hW : (rest.map fun v => v.category).sum ≤ 8) (hdg : decode cc pc = .ok (.invokevirtual index, 3)) {k1 n1 : Nat} (hk : cells + mc = k1) (hns : slots + ms = n1) (hf : k1 ≤ R.cells ∧ n1 ≤ R.slots) (kk : ∀ (H1 : Heap) (locs1 : List Loc), va_P g.1 vwCl ws H1 → va_D A ws → va_S A s.heap H1 locs1 → W p l e R s m args below meth c H1 locs1 k1 n1 Q (F0 m (pc + 3) ls (.long r :: rest))) : W p l e R s m args below meth c H locs cells slots Q (F0 m pc ls st) := by
  subst hst; subst hk; subst hns
  have hFc : ∀ q, va_A [] H.size q → A q := va_free hD hS hA [] rfl
  refine va_calll (va_runV (As := As) (rest := rest) S (hM H.size) cw ⟨k_blind, hrc, fun U hU hW => ⟨rfl, by rw [hU], (fun k q h => by simp at h), va_K.moved hW.alike hK, ⟨fun i j p q h => by simp at h, fun k q h => by simp at h⟩, by rw [hU]; exact BG.warm hW ((hG.kept hS.2.1).narrow hFc)⟩⟩ rfl hn hsz rfl (lv_room hW) hdg hf) hS (fun q _ h => hFc q h) hFc (fun r1 u t H1 locs1 ht hvm hw hB hz1 hk1 hS1 => ?_)
  obtain ⟨hP1, _, hD1⟩ := hB
  rw [ht] at hP1
  subst hw
  refine kk H1 locs1 (hP.kept (fun k q hq => hk1 q.1 (k_lt hP hq) ?_)) hD hS1
  intro h9
  rcases h9 with ⟨k9, e9, h9⟩ | h9
  · simp at h9
  · exact absurd (k_lt hP hq) (Nat.not_lt.mpr h9)
theorem k_vvW {cc : ByteArray} {nL : Nat} {Ts : List Cond} {own : String} (S : CallFix p m c cc nL s args Ts own) {ws w1 : va_W} (hK : va_K g.1 vwCl (tyL g) s) (hP : va_P g.1 vwCl ws H) (hD : va_D A ws) (hS : va_S A s.heap H locs) (hA : ∀ q, s.heap.size ≤ q → A q) (hG : BG g A s s.heap) {y : MethodName} {wy : List Cond} {rm : Room} {As : List Value} {a : Nat} {mc ms : Nat} (hM : CtV l y wy rm g (.ref a :: As) ws w1 mc ms) {C : String} {index : Nat} {bytes : ByteArray} {maxL : Nat} {ret : Option FieldType} {n : Nat} (cw : CallW R s args own C index y bytes maxL ret wy rm mc ms n) {q0 ci : Nat} {fs : List Value} {q : vw_C} (hc : vwCl[ci]? = some q) (he : ws[q0]? = some (a, .inr (ci, fs))) (hq : q.1 = C) {pc : Nat} {ls : Array Slot} {st rest : List Value} (hst : st = As.reverse ++ .ref a :: rest) (hn : As.length = n) (hsz : ls.size = nL) (hW : (rest.map fun v => v.category).sum ≤ 8) (hdg : decode cc pc = .ok (.invokevirtual index, 3)) {k1 n1 : Nat} (hk : cells + mc = k1) (hns : slots + ms = n1) (hf : k1 ≤ R.cells ∧ n1 ≤ R.slots) (kk : ∀ (H1 : Heap) (locs1 : List Loc), va_P g.1 vwCl w1 H1 → va_D A w1 → va_S A s.heap H1 locs1 → W p l e R s m args below meth c H1 locs1 k1 n1 Q (F0 m (pc + 3) ls rest)) : W p l e R s m args below meth c H locs cells slots Q (F0 m pc ls st) := by
  subst hst; subst hk; subst hns
  subst hq
  have hFc := k_free hD hS hA
  refine va_callv (va_runV (As := As) (rest := rest) S (hM H.size) cw ⟨k_blind, va_recv hK hP hc he, fun U hU hW => ⟨rfl, by rw [hU], by rw [hU]; exact hP, va_K.moved hW.alike hK, hD.weaken (fun _ _ _ _ => trivial), by rw [hU]; exact BG.warm hW ((hG.kept hS.2.1).narrow hFc)⟩⟩ rfl hn hsz rfl (lv_room hW) hdg hf) hS (fun q _ h => hFc q h) hFc (fun u t H1 locs1 ht hvm hw hB hz1 hk1 hS1 => ?_)
  obtain ⟨hP1, _, hD1⟩ := hB
  rw [ht] at hP1
  exact kk H1 locs1 hP1 (hD1.weaken (fun _ _ _ h => hFc _ h)) hS1
theorem k_vvP {cc : ByteArray} {nL : Nat} {Ts : List Cond} {own : String} (S : CallFix p m c cc nL s args Ts own) {ws wc wr w1 w2 : va_W} (hK : va_K g.1 vwCl (tyL g) s) (hP : va_P g.1 vwCl ws H) (hD : va_D A ws) (hS : va_S A s.heap H locs) (hA : ∀ q, s.heap.size ≤ q → A q) (hG : BG g A s s.heap) {y : MethodName} {wy : List Cond} {rm : Room} {As : List Value} {a : Nat} {mc ms : Nat} (hM : CtV l y wy rm g (.ref a :: As) wc w1 mc ms) {C : String} {index : Nat} {bytes : ByteArray} {maxL : Nat} {ret : Option FieldType} {n : Nat} (cw : CallW R s args own C index y bytes maxL ret wy rm mc ms n) {q0 ci : Nat} {fs : List Value} {q : vw_C} (hc : vwCl[ci]? = some q) (he : ws[q0]? = some (a, .inr (ci, fs))) (hq : q.1 = C) (isC isR isP : List Nat) (hC : isC.map (fun i => ws[i]?) = wc.map some) (hR : isR.map (fun i => ws[i]?) = wr.map some) (hnC : va_nd isC = true) (hn1 : va_nd isR = true) (hdis : ∀ i ∈ isR, i ∉ isC) (hp1 : isP.filterMap (fun i => (wr ++ w1)[i]?) = w2) (hp2 : isP.map (fun i => (wr ++ w1)[i]?) = w2.map some) (hn2 : va_nd isP = true) {pc : Nat} {ls : Array Slot} {st rest : List Value} (hst : st = As.reverse ++ .ref a :: rest) (hn : As.length = n) (hsz : ls.size = nL) (hW : (rest.map fun v => v.category).sum ≤ 8) (hdg : decode cc pc = .ok (.invokevirtual index, 3)) {k1 n1 : Nat} (hk : cells + mc = k1) (hns : slots + ms = n1) (hf : k1 ≤ R.cells ∧ n1 ≤ R.slots) (kk : ∀ (H1 : Heap) (locs1 : List Loc), va_P g.1 vwCl w2 H1 → va_D A w2 → va_S A s.heap H1 locs1 → W p l e R s m args below meth c H1 locs1 k1 n1 Q (F0 m (pc + 3) ls rest)) : W p l e R s m args below meth c H locs cells slots Q (F0 m pc ls st) := by
  subst hst; subst hk; subst hns
  subst hq
  have hFc : ∀ q, va_A wc H.size q → A q := va_free hD hS hA isC hC
  have hPc : va_P g.1 vwCl wc H := hP.sub isC (k_fm hC)
  have hDc : va_D (fun _ => True) wc := k_dsub hD isC hC hnC
  refine va_callv (va_runV (As := As) (rest := rest) S (hM H.size) cw ⟨k_blind, va_recv hK hP hc he, fun U hU hW => ⟨rfl, by rw [hU], by rw [hU]; exact hPc, va_K.moved hW.alike hK, hDc, by rw [hU]; exact BG.warm hW ((hG.kept hS.2.1).narrow hFc)⟩⟩ rfl hn hsz rfl (lv_room hW) hdg hf) hS (fun q _ h => hFc q h) hFc (fun u t H1 locs1 ht hvm hw hB hz1 hk1 hS1 => ?_)
  obtain ⟨hP1, _, hD1⟩ := hB
  rw [ht] at hP1
  obtain ⟨hP2, hD2⟩ := va_join hP hD isC isR hC hR hn1 hdis hk1 hFc hP1 hD1
  exact kk H1 locs1 (hP2.sub isP hp1) (hD2.sub isP hn2 hp2) hS1
theorem k_siW {cc : ByteArray} {nL : Nat} {Ts : List Cond} {own : String} (S : CallFix p m c cc nL s args Ts own) {ws w1 : va_W} (hK : va_K g.1 vwCl (tyL g) s) (hP : va_P g.1 vwCl ws H) (hD : va_D A ws) (hS : va_S A s.heap H locs) (hA : ∀ q, s.heap.size ≤ q → A q) (hG : BG g A s s.heap) {y : MethodName} {wy : List Cond} {rm : Room} {As : List Value} {r : Int32} {mc ms : Nat} (hM : CtI l y wy rm g As ws w1 r mc ms) {index : Nat} {bytes : ByteArray} {maxL : Nat} {ret : Option FieldType} {n : Nat} (cw : CallB R s args own index y bytes maxL ret wy rm mc ms n ∧ (Cond.static y).before args s = true) {pc : Nat} {ls : Array Slot} {st rest : List Value} (hst : st = As.reverse ++ rest) (hn : As.length = n) (hsz : ls.size = nL) (hW : (rest.map fun v => v.category).sum ≤ 8) (hdg : decode cc pc = .ok (.invokestatic index, 3)) {k1 n1 : Nat} (hk : cells + mc = k1) (hns : slots + ms = n1) (hf : k1 ≤ R.cells ∧ n1 ≤ R.slots) (kk : ∀ (H1 : Heap) (locs1 : List Loc), va_P g.1 vwCl w1 H1 → va_D A w1 → va_S A s.heap H1 locs1 → W p l e R s m args below meth c H1 locs1 k1 n1 Q (F0 m (pc + 3) ls (.int r :: rest))) : W p l e R s m args below meth c H locs cells slots Q (F0 m pc ls st) := by
  subst hst; subst hk; subst hns
  have hFc := k_free hD hS hA
  refine va_calli (va_runS (As := As) (rest := rest) S (hM H.size) cw ⟨k_blind, fun U hU hW => ⟨rfl, by rw [hU], by rw [hU]; exact hP, va_K.moved hW.alike hK, hD.weaken (fun _ _ _ _ => trivial), by rw [hU]; exact BG.warm hW ((hG.kept hS.2.1).narrow hFc)⟩⟩ rfl hn hsz rfl (lv_room hW) hdg hf) hS (fun q _ h => hFc q h) hFc (fun r1 u t H1 locs1 ht hvm hw hB hz1 hk1 hS1 => ?_)
  obtain ⟨hP1, _, hD1⟩ := hB
  rw [ht] at hP1
  subst hw
  exact kk H1 locs1 hP1 (hD1.weaken (fun _ _ _ h => hFc _ h)) hS1
theorem k_siP {cc : ByteArray} {nL : Nat} {Ts : List Cond} {own : String} (S : CallFix p m c cc nL s args Ts own) {ws wc wr w1 w2 : va_W} (hK : va_K g.1 vwCl (tyL g) s) (hP : va_P g.1 vwCl ws H) (hD : va_D A ws) (hS : va_S A s.heap H locs) (hA : ∀ q, s.heap.size ≤ q → A q) (hG : BG g A s s.heap) {y : MethodName} {wy : List Cond} {rm : Room} {As : List Value} {r : Int32} {mc ms : Nat} (hM : CtI l y wy rm g As wc w1 r mc ms) {index : Nat} {bytes : ByteArray} {maxL : Nat} {ret : Option FieldType} {n : Nat} (cw : CallB R s args own index y bytes maxL ret wy rm mc ms n ∧ (Cond.static y).before args s = true) (isC isR isP : List Nat) (hC : isC.map (fun i => ws[i]?) = wc.map some) (hR : isR.map (fun i => ws[i]?) = wr.map some) (hnC : va_nd isC = true) (hn1 : va_nd isR = true) (hdis : ∀ i ∈ isR, i ∉ isC) (hp1 : isP.filterMap (fun i => (wr ++ w1)[i]?) = w2) (hp2 : isP.map (fun i => (wr ++ w1)[i]?) = w2.map some) (hn2 : va_nd isP = true) {pc : Nat} {ls : Array Slot} {st rest : List Value} (hst : st = As.reverse ++ rest) (hn : As.length = n) (hsz : ls.size = nL) (hW : (rest.map fun v => v.category).sum ≤ 8) (hdg : decode cc pc = .ok (.invokestatic index, 3)) {k1 n1 : Nat} (hk : cells + mc = k1) (hns : slots + ms = n1) (hf : k1 ≤ R.cells ∧ n1 ≤ R.slots) (kk : ∀ (H1 : Heap) (locs1 : List Loc), va_P g.1 vwCl w2 H1 → va_D A w2 → va_S A s.heap H1 locs1 → W p l e R s m args below meth c H1 locs1 k1 n1 Q (F0 m (pc + 3) ls (.int r :: rest))) : W p l e R s m args below meth c H locs cells slots Q (F0 m pc ls st) := by
  subst hst; subst hk; subst hns
  have hFc : ∀ q, va_A wc H.size q → A q := va_free hD hS hA isC hC
  have hPc : va_P g.1 vwCl wc H := hP.sub isC (k_fm hC)
  have hDc : va_D (fun _ => True) wc := k_dsub hD isC hC hnC
  refine va_calli (va_runS (As := As) (rest := rest) S (hM H.size) cw ⟨k_blind, fun U hU hW => ⟨rfl, by rw [hU], by rw [hU]; exact hPc, va_K.moved hW.alike hK, hDc, by rw [hU]; exact BG.warm hW ((hG.kept hS.2.1).narrow hFc)⟩⟩ rfl hn hsz rfl (lv_room hW) hdg hf) hS (fun q _ h => hFc q h) hFc (fun r1 u t H1 locs1 ht hvm hw hB hz1 hk1 hS1 => ?_)
  obtain ⟨hP1, _, hD1⟩ := hB
  rw [ht] at hP1
  subst hw
  obtain ⟨hP2, hD2⟩ := va_join hP hD isC isR hC hR hn1 hdis hk1 hFc hP1 hD1
  exact kk H1 locs1 (hP2.sub isP hp1) (hD2.sub isP hn2 hp2) hS1
theorem k_si0 {cc : ByteArray} {nL : Nat} {Ts : List Cond} {own : String} (S : CallFix p m c cc nL s args Ts own) {ws : va_W} (hK : va_K g.1 vwCl (tyL g) s) (hP : va_P g.1 vwCl ws H) (hD : va_D A ws) (hS : va_S A s.heap H locs) (hA : ∀ q, s.heap.size ≤ q → A q) (hG : BG g A s s.heap) {y : MethodName} {wy : List Cond} {rm : Room} {As : List Value} {r : Int32} {mc ms : Nat} (hM : CtI l y wy rm g As [] [] r mc ms) {index : Nat} {bytes : ByteArray} {maxL : Nat} {ret : Option FieldType} {n : Nat} (cw : CallB R s args own index y bytes maxL ret wy rm mc ms n ∧ (Cond.static y).before args s = true) {pc : Nat} {ls : Array Slot} {st rest : List Value} (hst : st = As.reverse ++ rest) (hn : As.length = n) (hsz : ls.size = nL) (hW : (rest.map fun v => v.category).sum ≤ 8) (hdg : decode cc pc = .ok (.invokestatic index, 3)) {k1 n1 : Nat} (hk : cells + mc = k1) (hns : slots + ms = n1) (hf : k1 ≤ R.cells ∧ n1 ≤ R.slots) (kk : ∀ (H1 : Heap) (locs1 : List Loc), va_P g.1 vwCl ws H1 → va_D A ws → va_S A s.heap H1 locs1 → W p l e R s m args below meth c H1 locs1 k1 n1 Q (F0 m (pc + 3) ls (.int r :: rest))) : W p l e R s m args below meth c H locs cells slots Q (F0 m pc ls st) := by
  subst hst; subst hk; subst hns
  have hFc : ∀ q, va_A [] H.size q → A q := va_free hD hS hA [] rfl
  refine va_calli (va_runS (As := As) (rest := rest) S (hM H.size) cw ⟨k_blind, fun U hU hW => ⟨rfl, by rw [hU], (fun k q h => by simp at h), va_K.moved hW.alike hK, ⟨fun i j p q h => by simp at h, fun k q h => by simp at h⟩, by rw [hU]; exact BG.warm hW ((hG.kept hS.2.1).narrow hFc)⟩⟩ rfl hn hsz rfl (lv_room hW) hdg hf) hS (fun q _ h => hFc q h) hFc (fun r1 u t H1 locs1 ht hvm hw hB hz1 hk1 hS1 => ?_)
  obtain ⟨hP1, _, hD1⟩ := hB
  rw [ht] at hP1
  subst hw
  refine kk H1 locs1 (hP.kept (fun k q hq => hk1 q.1 (k_lt hP hq) ?_)) hD hS1
  intro h9
  rcases h9 with ⟨k9, e9, h9⟩ | h9
  · simp at h9
  · exact absurd (k_lt hP hq) (Nat.not_lt.mpr h9)
theorem k_slW {cc : ByteArray} {nL : Nat} {Ts : List Cond} {own : String} (S : CallFix p m c cc nL s args Ts own) {ws w1 : va_W} (hK : va_K g.1 vwCl (tyL g) s) (hP : va_P g.1 vwCl ws H) (hD : va_D A ws) (hS : va_S A s.heap H locs) (hA : ∀ q, s.heap.size ≤ q → A q) (hG : BG g A s s.heap) {y : MethodName} {wy : List Cond} {rm : Room} {As : List Value} {r : Int64} {mc ms : Nat} (hM : CtJ l y wy rm g As ws w1 r mc ms) {index : Nat} {bytes : ByteArray} {maxL : Nat} {ret : Option FieldType} {n : Nat} (cw : CallB R s args own index y bytes maxL ret wy rm mc ms n ∧ (Cond.static y).before args s = true) {pc : Nat} {ls : Array Slot} {st rest : List Value} (hst : st = As.reverse ++ rest) (hn : As.length = n) (hsz : ls.size = nL) (hW : (rest.map fun v => v.category).sum ≤ 8) (hdg : decode cc pc = .ok (.invokestatic index, 3)) {k1 n1 : Nat} (hk : cells + mc = k1) (hns : slots + ms = n1) (hf : k1 ≤ R.cells ∧ n1 ≤ R.slots) (kk : ∀ (H1 : Heap) (locs1 : List Loc), va_P g.1 vwCl w1 H1 → va_D A w1 → va_S A s.heap H1 locs1 → W p l e R s m args below meth c H1 locs1 k1 n1 Q (F0 m (pc + 3) ls (.long r :: rest))) : W p l e R s m args below meth c H locs cells slots Q (F0 m pc ls st) := by
  subst hst; subst hk; subst hns
  have hFc := k_free hD hS hA
  refine va_calll (va_runS (As := As) (rest := rest) S (hM H.size) cw ⟨k_blind, fun U hU hW => ⟨rfl, by rw [hU], by rw [hU]; exact hP, va_K.moved hW.alike hK, hD.weaken (fun _ _ _ _ => trivial), by rw [hU]; exact BG.warm hW ((hG.kept hS.2.1).narrow hFc)⟩⟩ rfl hn hsz rfl (lv_room hW) hdg hf) hS (fun q _ h => hFc q h) hFc (fun r1 u t H1 locs1 ht hvm hw hB hz1 hk1 hS1 => ?_)
  obtain ⟨hP1, _, hD1⟩ := hB
  rw [ht] at hP1
  subst hw
  exact kk H1 locs1 hP1 (hD1.weaken (fun _ _ _ h => hFc _ h)) hS1
theorem k_slP {cc : ByteArray} {nL : Nat} {Ts : List Cond} {own : String} (S : CallFix p m c cc nL s args Ts own) {ws wc wr w1 w2 : va_W} (hK : va_K g.1 vwCl (tyL g) s) (hP : va_P g.1 vwCl ws H) (hD : va_D A ws) (hS : va_S A s.heap H locs) (hA : ∀ q, s.heap.size ≤ q → A q) (hG : BG g A s s.heap) {y : MethodName} {wy : List Cond} {rm : Room} {As : List Value} {r : Int64} {mc ms : Nat} (hM : CtJ l y wy rm g As wc w1 r mc ms) {index : Nat} {bytes : ByteArray} {maxL : Nat} {ret : Option FieldType} {n : Nat} (cw : CallB R s args own index y bytes maxL ret wy rm mc ms n ∧ (Cond.static y).before args s = true) (isC isR isP : List Nat) (hC : isC.map (fun i => ws[i]?) = wc.map some) (hR : isR.map (fun i => ws[i]?) = wr.map some) (hnC : va_nd isC = true) (hn1 : va_nd isR = true) (hdis : ∀ i ∈ isR, i ∉ isC) (hp1 : isP.filterMap (fun i => (wr ++ w1)[i]?) = w2) (hp2 : isP.map (fun i => (wr ++ w1)[i]?) = w2.map some) (hn2 : va_nd isP = true) {pc : Nat} {ls : Array Slot} {st rest : List Value} (hst : st = As.reverse ++ rest) (hn : As.length = n) (hsz : ls.size = nL) (hW : (rest.map fun v => v.category).sum ≤ 8) (hdg : decode cc pc = .ok (.invokestatic index, 3)) {k1 n1 : Nat} (hk : cells + mc = k1) (hns : slots + ms = n1) (hf : k1 ≤ R.cells ∧ n1 ≤ R.slots) (kk : ∀ (H1 : Heap) (locs1 : List Loc), va_P g.1 vwCl w2 H1 → va_D A w2 → va_S A s.heap H1 locs1 → W p l e R s m args below meth c H1 locs1 k1 n1 Q (F0 m (pc + 3) ls (.long r :: rest))) : W p l e R s m args below meth c H locs cells slots Q (F0 m pc ls st) := by
  subst hst; subst hk; subst hns
  have hFc : ∀ q, va_A wc H.size q → A q := va_free hD hS hA isC hC
  have hPc : va_P g.1 vwCl wc H := hP.sub isC (k_fm hC)
  have hDc : va_D (fun _ => True) wc := k_dsub hD isC hC hnC
  refine va_calll (va_runS (As := As) (rest := rest) S (hM H.size) cw ⟨k_blind, fun U hU hW => ⟨rfl, by rw [hU], by rw [hU]; exact hPc, va_K.moved hW.alike hK, hDc, by rw [hU]; exact BG.warm hW ((hG.kept hS.2.1).narrow hFc)⟩⟩ rfl hn hsz rfl (lv_room hW) hdg hf) hS (fun q _ h => hFc q h) hFc (fun r1 u t H1 locs1 ht hvm hw hB hz1 hk1 hS1 => ?_)
  obtain ⟨hP1, _, hD1⟩ := hB
  rw [ht] at hP1
  subst hw
  obtain ⟨hP2, hD2⟩ := va_join hP hD isC isR hC hR hn1 hdis hk1 hFc hP1 hD1
  exact kk H1 locs1 (hP2.sub isP hp1) (hD2.sub isP hn2 hp2) hS1
theorem k_sl0 {cc : ByteArray} {nL : Nat} {Ts : List Cond} {own : String} (S : CallFix p m c cc nL s args Ts own) {ws : va_W} (hK : va_K g.1 vwCl (tyL g) s) (hP : va_P g.1 vwCl ws H) (hD : va_D A ws) (hS : va_S A s.heap H locs) (hA : ∀ q, s.heap.size ≤ q → A q) (hG : BG g A s s.heap) {y : MethodName} {wy : List Cond} {rm : Room} {As : List Value} {r : Int64} {mc ms : Nat} (hM : CtJ l y wy rm g As [] [] r mc ms) {index : Nat} {bytes : ByteArray} {maxL : Nat} {ret : Option FieldType} {n : Nat} (cw : CallB R s args own index y bytes maxL ret wy rm mc ms n ∧ (Cond.static y).before args s = true) {pc : Nat} {ls : Array Slot} {st rest : List Value} (hst : st = As.reverse ++ rest) (hn : As.length = n) (hsz : ls.size = nL) (hW : (rest.map fun v => v.category).sum ≤ 8) (hdg : decode cc pc = .ok (.invokestatic index, 3)) {k1 n1 : Nat} (hk : cells + mc = k1) (hns : slots + ms = n1) (hf : k1 ≤ R.cells ∧ n1 ≤ R.slots) (kk : ∀ (H1 : Heap) (locs1 : List Loc), va_P g.1 vwCl ws H1 → va_D A ws → va_S A s.heap H1 locs1 → W p l e R s m args below meth c H1 locs1 k1 n1 Q (F0 m (pc + 3) ls (.long r :: rest))) : W p l e R s m args below meth c H locs cells slots Q (F0 m pc ls st) := by
  subst hst; subst hk; subst hns
  have hFc : ∀ q, va_A [] H.size q → A q := va_free hD hS hA [] rfl
  refine va_calll (va_runS (As := As) (rest := rest) S (hM H.size) cw ⟨k_blind, fun U hU hW => ⟨rfl, by rw [hU], (fun k q h => by simp at h), va_K.moved hW.alike hK, ⟨fun i j p q h => by simp at h, fun k q h => by simp at h⟩, by rw [hU]; exact BG.warm hW ((hG.kept hS.2.1).narrow hFc)⟩⟩ rfl hn hsz rfl (lv_room hW) hdg hf) hS (fun q _ h => hFc q h) hFc (fun r1 u t H1 locs1 ht hvm hw hB hz1 hk1 hS1 => ?_)
  obtain ⟨hP1, _, hD1⟩ := hB
  rw [ht] at hP1
  subst hw
  refine kk H1 locs1 (hP.kept (fun k q hq => hk1 q.1 (k_lt hP hq) ?_)) hD hS1
  intro h9
  rcases h9 with ⟨k9, e9, h9⟩ | h9
  · simp at h9
  · exact absurd (k_lt hP hq) (Nat.not_lt.mpr h9)
theorem k_svW {cc : ByteArray} {nL : Nat} {Ts : List Cond} {own : String} (S : CallFix p m c cc nL s args Ts own) {ws w1 : va_W} (hK : va_K g.1 vwCl (tyL g) s) (hP : va_P g.1 vwCl ws H) (hD : va_D A ws) (hS : va_S A s.heap H locs) (hA : ∀ q, s.heap.size ≤ q → A q) (hG : BG g A s s.heap) {y : MethodName} {wy : List Cond} {rm : Room} {As : List Value} {mc ms : Nat} (hM : CtV l y wy rm g As ws w1 mc ms) {index : Nat} {bytes : ByteArray} {maxL : Nat} {ret : Option FieldType} {n : Nat} (cw : CallB R s args own index y bytes maxL ret wy rm mc ms n ∧ (Cond.static y).before args s = true) {pc : Nat} {ls : Array Slot} {st rest : List Value} (hst : st = As.reverse ++ rest) (hn : As.length = n) (hsz : ls.size = nL) (hW : (rest.map fun v => v.category).sum ≤ 8) (hdg : decode cc pc = .ok (.invokestatic index, 3)) {k1 n1 : Nat} (hk : cells + mc = k1) (hns : slots + ms = n1) (hf : k1 ≤ R.cells ∧ n1 ≤ R.slots) (kk : ∀ (H1 : Heap) (locs1 : List Loc), va_P g.1 vwCl w1 H1 → va_D A w1 → va_S A s.heap H1 locs1 → W p l e R s m args below meth c H1 locs1 k1 n1 Q (F0 m (pc + 3) ls rest)) : W p l e R s m args below meth c H locs cells slots Q (F0 m pc ls st) := by
  subst hst; subst hk; subst hns
  have hFc := k_free hD hS hA
  refine va_callv (va_runS (As := As) (rest := rest) S (hM H.size) cw ⟨k_blind, fun U hU hW => ⟨rfl, by rw [hU], by rw [hU]; exact hP, va_K.moved hW.alike hK, hD.weaken (fun _ _ _ _ => trivial), by rw [hU]; exact BG.warm hW ((hG.kept hS.2.1).narrow hFc)⟩⟩ rfl hn hsz rfl (lv_room hW) hdg hf) hS (fun q _ h => hFc q h) hFc (fun u t H1 locs1 ht hvm hw hB hz1 hk1 hS1 => ?_)
  obtain ⟨hP1, _, hD1⟩ := hB
  rw [ht] at hP1
  exact kk H1 locs1 hP1 (hD1.weaken (fun _ _ _ h => hFc _ h)) hS1
theorem k_svP {cc : ByteArray} {nL : Nat} {Ts : List Cond} {own : String} (S : CallFix p m c cc nL s args Ts own) {ws wc wr w1 w2 : va_W} (hK : va_K g.1 vwCl (tyL g) s) (hP : va_P g.1 vwCl ws H) (hD : va_D A ws) (hS : va_S A s.heap H locs) (hA : ∀ q, s.heap.size ≤ q → A q) (hG : BG g A s s.heap) {y : MethodName} {wy : List Cond} {rm : Room} {As : List Value} {mc ms : Nat} (hM : CtV l y wy rm g As wc w1 mc ms) {index : Nat} {bytes : ByteArray} {maxL : Nat} {ret : Option FieldType} {n : Nat} (cw : CallB R s args own index y bytes maxL ret wy rm mc ms n ∧ (Cond.static y).before args s = true) (isC isR isP : List Nat) (hC : isC.map (fun i => ws[i]?) = wc.map some) (hR : isR.map (fun i => ws[i]?) = wr.map some) (hnC : va_nd isC = true) (hn1 : va_nd isR = true) (hdis : ∀ i ∈ isR, i ∉ isC) (hp1 : isP.filterMap (fun i => (wr ++ w1)[i]?) = w2) (hp2 : isP.map (fun i => (wr ++ w1)[i]?) = w2.map some) (hn2 : va_nd isP = true) {pc : Nat} {ls : Array Slot} {st rest : List Value} (hst : st = As.reverse ++ rest) (hn : As.length = n) (hsz : ls.size = nL) (hW : (rest.map fun v => v.category).sum ≤ 8) (hdg : decode cc pc = .ok (.invokestatic index, 3)) {k1 n1 : Nat} (hk : cells + mc = k1) (hns : slots + ms = n1) (hf : k1 ≤ R.cells ∧ n1 ≤ R.slots) (kk : ∀ (H1 : Heap) (locs1 : List Loc), va_P g.1 vwCl w2 H1 → va_D A w2 → va_S A s.heap H1 locs1 → W p l e R s m args below meth c H1 locs1 k1 n1 Q (F0 m (pc + 3) ls rest)) : W p l e R s m args below meth c H locs cells slots Q (F0 m pc ls st) := by
  subst hst; subst hk; subst hns
  have hFc : ∀ q, va_A wc H.size q → A q := va_free hD hS hA isC hC
  have hPc : va_P g.1 vwCl wc H := hP.sub isC (k_fm hC)
  have hDc : va_D (fun _ => True) wc := k_dsub hD isC hC hnC
  refine va_callv (va_runS (As := As) (rest := rest) S (hM H.size) cw ⟨k_blind, fun U hU hW => ⟨rfl, by rw [hU], by rw [hU]; exact hPc, va_K.moved hW.alike hK, hDc, by rw [hU]; exact BG.warm hW ((hG.kept hS.2.1).narrow hFc)⟩⟩ rfl hn hsz rfl (lv_room hW) hdg hf) hS (fun q _ h => hFc q h) hFc (fun u t H1 locs1 ht hvm hw hB hz1 hk1 hS1 => ?_)
  obtain ⟨hP1, _, hD1⟩ := hB
  rw [ht] at hP1
  obtain ⟨hP2, hD2⟩ := va_join hP hD isC isR hC hR hn1 hdis hk1 hFc hP1 hD1
  exact kk H1 locs1 (hP2.sub isP hp1) (hD2.sub isP hn2 hp2) hS1
theorem k_sv0 {cc : ByteArray} {nL : Nat} {Ts : List Cond} {own : String} (S : CallFix p m c cc nL s args Ts own) {ws : va_W} (hK : va_K g.1 vwCl (tyL g) s) (hP : va_P g.1 vwCl ws H) (hD : va_D A ws) (hS : va_S A s.heap H locs) (hA : ∀ q, s.heap.size ≤ q → A q) (hG : BG g A s s.heap) {y : MethodName} {wy : List Cond} {rm : Room} {As : List Value} {mc ms : Nat} (hM : CtV l y wy rm g As [] [] mc ms) {index : Nat} {bytes : ByteArray} {maxL : Nat} {ret : Option FieldType} {n : Nat} (cw : CallB R s args own index y bytes maxL ret wy rm mc ms n ∧ (Cond.static y).before args s = true) {pc : Nat} {ls : Array Slot} {st rest : List Value} (hst : st = As.reverse ++ rest) (hn : As.length = n) (hsz : ls.size = nL) (hW : (rest.map fun v => v.category).sum ≤ 8) (hdg : decode cc pc = .ok (.invokestatic index, 3)) {k1 n1 : Nat} (hk : cells + mc = k1) (hns : slots + ms = n1) (hf : k1 ≤ R.cells ∧ n1 ≤ R.slots) (kk : ∀ (H1 : Heap) (locs1 : List Loc), va_P g.1 vwCl ws H1 → va_D A ws → va_S A s.heap H1 locs1 → W p l e R s m args below meth c H1 locs1 k1 n1 Q (F0 m (pc + 3) ls rest)) : W p l e R s m args below meth c H locs cells slots Q (F0 m pc ls st) := by
  subst hst; subst hk; subst hns
  have hFc : ∀ q, va_A [] H.size q → A q := va_free hD hS hA [] rfl
  refine va_callv (va_runS (As := As) (rest := rest) S (hM H.size) cw ⟨k_blind, fun U hU hW => ⟨rfl, by rw [hU], (fun k q h => by simp at h), va_K.moved hW.alike hK, ⟨fun i j p q h => by simp at h, fun k q h => by simp at h⟩, by rw [hU]; exact BG.warm hW ((hG.kept hS.2.1).narrow hFc)⟩⟩ rfl hn hsz rfl (lv_room hW) hdg hf) hS (fun q _ h => hFc q h) hFc (fun u t H1 locs1 ht hvm hw hB hz1 hk1 hS1 => ?_)
  obtain ⟨hP1, _, hD1⟩ := hB
  rw [ht] at hP1
  refine kk H1 locs1 (hP.kept (fun k q hq => hk1 q.1 (k_lt hP hq) ?_)) hD hS1
  intro h9
  rcases h9 with ⟨k9, e9, h9⟩ | h9
  · simp at h9
  · exact absurd (k_lt hP hq) (Nat.not_lt.mpr h9)
end
