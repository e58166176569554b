/-! What a state of the system is: modules (an object with its own arrays) and their values; contracts over modules; calls. -/
abbrev Gx : Type := va_G × ClassId × ClassId × ClassId × ClassId × (Nat → Nat) × (Nat → Nat) × (Nat → Nat)
abbrev tyL (g : Gx) : List (ClassId × FieldType) := [(g.2.1, .int), (g.2.2.1, .long), (g.2.2.2.1, .boolean), (g.2.2.2.2.1, .object "FaultTests$Setup")]
abbrev Vs : Type := (Nat → Int32) × (Nat → Nat → Int32) × (Nat → Nat → Int64)
def sF (v : Vs) (k : Nat) (x : Int32) : Vs := (upd v.1 k x, v.2)
def sI (v : Vs) (k i : Nat) (x : Int32) : Vs := (v.1, (fun j => if j = k then upd (v.2.1 k) i x else v.2.1 j), v.2.2)
def sA (v : Vs) (k : Nat) (f : Nat → Int32) : Vs := (v.1, (fun j => if j = k then f else v.2.1 j), v.2.2)
def sJ (v : Vs) (k i : Nat) (x : Int64) : Vs := (v.1, v.2.1, (fun j => if j = k then vp_updL (v.2.2 k) i x else v.2.2 j))
def fcM (b : Nat → Nat) (v : Vs) : List Value := [.int (v.1 0), .ref (b 2), .ref (b 3), .int (v.1 3), .int (v.1 4), .ref (b 6), .ref (b 7), .ref (b 8), .ref (b 9), .ref (b 10), .ref (b 11), .ref (b 12), .int (v.1 12), .int (v.1 13), .int (v.1 14), .int (v.1 15), .int (v.1 16), .int (v.1 17), .int (v.1 18), .ref (b 20), .ref (b 21), .ref (b 22), .ref (b 23)]
def cM (g : Gx) (b : Nat → Nat) (v : Vs) : va_W := [(b 0, .inr (8, fcM b v)), (b 2, .inl (g.2.1, 3960, .inl (v.2.1 1))), (b 3, .inl (g.2.1, 440, .inl (v.2.1 2))), (b 6, .inl (g.2.1, 24, .inl (v.2.1 5))), (b 7, .inl (g.2.1, 8, .inl (v.2.1 6))), (b 8, .inl (g.2.1, 24, .inl (v.2.1 7))), (b 9, .inl (g.2.1, 24, .inl (v.2.1 8))), (b 10, .inl (g.2.1, 56, .inl (v.2.1 9))), (b 11, .inl (g.2.1, 14592, .inl (v.2.1 10))), (b 12, .inl (g.2.1, 800, .inl (v.2.1 11))), (b 20, .inl (g.2.2.2.1, 24, .inl (v.2.1 19))), (b 21, .inl (g.2.1, 6, .inl (v.2.1 20))), (b 22, .inl (g.2.2.2.1, 57, .inl (v.2.1 21))), (b 23, .inl (g.2.1, 729, .inl (v.2.1 22)))]
def fcC (b : Nat → Nat) (v : Vs) : List Value := [.int (v.1 0), .int (v.1 1), .int (v.1 2), .int (v.1 3), .ref (b 5), .ref (b 6), .ref (b 7), .ref (b 8), .ref (b 9), .ref (b 10), .ref (b 11), .ref (b 12), .ref (b 13), .ref (b 14)]
def cC (g : Gx) (b : Nat → Nat) (v : Vs) : va_W := [(b 0, .inr (0, fcC b v)), (b 5, .inl (g.2.1, 24, .inl (v.2.1 4))), (b 6, .inl (g.2.1, 24, .inl (v.2.1 5))), (b 7, .inl (g.2.1, 96, .inl (v.2.1 6))), (b 8, .inl (g.2.1, 24, .inl (v.2.1 7))), (b 9, .inl (g.2.1, 24, .inl (v.2.1 8))), (b 10, .inl (g.2.1, 24, .inl (v.2.1 9))), (b 11, .inl (g.2.1, 6, .inl (v.2.1 10))), (b 12, .inl (g.2.1, 8, .inl (v.2.1 11))), (b 13, .inl (g.2.1, 8, .inl (v.2.1 12))), (b 14, .inl (g.2.1, 8, .inl (v.2.1 13)))]
def fcT (b : Nat → Nat) (v : Vs) : List Value := [.int (v.1 0), .ref (b 2), .ref (b 3), .ref (b 4), .ref (b 5)]
def cT (g : Gx) (b : Nat → Nat) (v : Vs) : va_W := [(b 0, .inr (6, fcT b v)), (b 2, .inl (g.2.1, 16, .inl (v.2.1 1))), (b 3, .inl (g.2.1, 16, .inl (v.2.1 2))), (b 4, .inl (g.2.1, 6, .inl (v.2.1 3))), (b 5, .inl (g.2.1, 6, .inl (v.2.1 4)))]
def fcL (b : Nat → Nat) (v : Vs) : List Value := [.ref (b 1), .ref (b 2)]
def cL (g : Gx) (b : Nat → Nat) (v : Vs) : va_W := [(b 0, .inr (2, fcL b v)), (b 1, .inl (g.2.2.1, 24, .inr (.inl (v.2.2 0)))), (b 2, .inl (g.2.2.1, 24, .inr (.inl (v.2.2 1))))]
def fcR (b : Nat → Nat) (q0 q1 : Nat) (v : Vs) : List Value := [.ref q0, .ref q1, .ref (b 3), .ref (b 4), .int (v.1 4)]
def cR (g : Gx) (b : Nat → Nat) (n : Nat) (q0 q1 : Nat) (v : Vs) : va_W := [(b 0, .inr (3, fcR b q0 q1 v)), (b 3, .inl (g.2.2.1, n, .inr (.inl (v.2.2 2)))), (b 4, .inl (g.2.2.1, n, .inr (.inl (v.2.2 3))))]
def fcS (b : Nat → Nat) (q0 q1 : Nat) : List Value := [.ref q0, .ref q1]
def cS (g : Gx) (b : Nat → Nat) (q0 q1 : Nat) : va_W := [(b 0, .inr (4, fcS b q0 q1))]
def fcD (b : Nat → Nat) (q0 : Nat) (v : Vs) : List Value := [.ref q0, .int (v.1 1), .int (v.1 2), .ref (b 4), .int (v.1 4), .int (v.1 5), .int (v.1 6), .int (v.1 7), .int (v.1 8), .int (v.1 9)]
def cD (g : Gx) (b : Nat → Nat) (q0 : Nat) (v : Vs) : va_W := [(b 0, .inr (5, fcD b q0 v)), (b 4, .inl (g.2.1, 800, .inl (v.2.1 3)))]
def fcF (b : Nat → Nat) (q0 q1 q2 q3 q4 : Nat) (v : Vs) : List Value := [.ref q0, .ref q1, .ref q2, .ref q3, .ref q4, .int (v.1 5), .int (v.1 6), .ref (b 8), .ref (b 9), .ref (b 10), .ref (b 11), .ref (b 12)]
def cF (g : Gx) (b : Nat → Nat) (q0 q1 q2 q3 q4 : Nat) (v : Vs) : va_W := [(b 0, .inr (7, fcF b q0 q1 q2 q3 q4 v)), (b 8, .inl (g.2.1, 57, .inl (v.2.1 7))), (b 9, .inl (g.2.1, 729, .inl (v.2.1 8))), (b 10, .inl (g.2.2.1, 16, .inr (.inl (v.2.2 9)))), (b 11, .inl (g.2.2.1, 16, .inr (.inl (v.2.2 10)))), (b 12, .inl (g.2.2.1, 256, .inr (.inl (v.2.2 11))))]
/-! pure programs: guards, names, calls, joins, loops -/
def inb (i : Int32) (n : Nat) : Bool := !(decide (i < 0)) && decide (i.toNatClampNeg < n)
def isB (x : Int32) : Bool := decide (x = 0) || decide (x = 1)
def i2c (x : Int32) : Int32 := (x.toUInt32 % 65536).toInt32
def isY (x : Int32) : Bool := decide (x.toInt8.toInt32 = x)
def isC (x : Int32) : Bool := decide (x.toUInt32.toUInt16.toUInt32.toInt32 = x)
def dOK (r : UInt64) : Bool := decide (r &&& 0x7fffffffffffffff ≤ 0x7ff0000000000000)
def nz (x : Int32) : Bool := !(decide (x = 0))
def gd {α : Type} (c : Bool) (k : Option α) : Option α := match c with
  | true => k
  | false => none
theorem gd_at {α : Type} {c : Bool} {k : Option α} {r : α} (h : gd c k = some r) : c = true ∧ k = some r := by
  cases c with
  | true => exact ⟨rfl, h⟩
  | false => exact absurd h (by simp [gd])
theorem inb_in {i : Int32} {n : Nat} (h : inb i n = true) : vp_in i n := by
  simp only [inb, Bool.and_eq_true, Bool.not_eq_true', decide_eq_false_iff_not, decide_eq_true_eq] at h
  intro q
  rcases q with q | q
  · exact h.1 q
  · omega
theorem gd_in {α : Type} {i : Int32} {n : Nat} {k : Option α} {r : α} (h : gd (inb i n) k = some r) : vp_in i n ∧ k = some r := ⟨inb_in (gd_at h).1, (gd_at h).2⟩
theorem kp_2 {α β : Type} {a c : α} {b d : β} (h : some (a, b) = some (c, d)) : a = c ∧ b = d := Prod.mk.inj (Option.some.inj h)
theorem kp_3 {α β γ : Type} {a a1 : α} {b b1 : β} {c c1 : γ} (h : some (a, b, c) = some (a1, b1, c1)) : a = a1 ∧ b = b1 ∧ c = c1 := by cases h; exact ⟨rfl, rfl, rfl⟩
theorem kp_4 {α β γ δ : Type} {a a1 : α} {b b1 : β} {c c1 : γ} {d d1 : δ} (h : some (a, b, c, d) = some (a1, b1, c1, d1)) : a = a1 ∧ b = b1 ∧ c = c1 ∧ d = d1 := by cases h; exact ⟨rfl, rfl, rfl, rfl⟩
def ius (x y : Int32) : Int32 := (x.toUInt32 >>> (y.toUInt32 &&& Int32.toUInt32 31)).toInt32
def lus (x : Int64) (y : Int32) : Int64 := (x.toUInt64 >>> (y.toInt64.toUInt64 &&& Int64.toUInt64 63)).toInt64
theorem gd_nz {α : Type} {x : Int32} {k : Option α} {r : α} (h : gd (nz x) k = some r) : ¬ x = 0 ∧ k = some r := ⟨by have := (gd_at h).1; simpa [nz] using this, (gd_at h).2⟩
theorem gd_isB {α : Type} {x : Int32} {k : Option α} {r : α} (h : gd (isB x) k = some r) : (x = 0 ∨ x = 1) ∧ k = some r := ⟨by have := (gd_at h).1; simpa [isB] using this, (gd_at h).2⟩
def bn {α β : Type} (x : α) (k : α → β) : β := k x
theorem bn_at {α β : Type} {x : α} {k : α → β} {r : β} (h : bn x k = r) {y : α} (e : y = x) : k y = r := by rw [e]; exact h
def o1 {α β : Type} (x : Option α) (k : α → Option β) : Option β := match x with
  | none => none
  | some a => k a
def o2 {α β γ : Type} (x : Option (α × β)) (k : α → β → Option γ) : Option γ := match x with
  | none => none
  | some (a, b) => k a b
def o3 {α β γ δ : Type} (x : Option (α × β × γ)) (k : α → β → γ → Option δ) : Option δ := match x with
  | none => none
  | some (a, b, c) => k a b c
def o4 {α β γ δ ε : Type} (x : Option (α × β × γ × δ)) (k : α → β → γ → δ → Option ε) : Option ε := match x with
  | none => none
  | some (a, b, c, d) => k a b c d
theorem o1_at {α β : Type} {x : Option α} {k : α → Option β} {r : β} (h : o1 x k = some r) : ∃ a, x = some a ∧ k a = some r := by
  cases x with
  | none => cases h
  | some a => exact ⟨a, rfl, h⟩
theorem o2_at {α β γ : Type} {x : Option (α × β)} {k : α → β → Option γ} {r : γ} (h : o2 x k = some r) : ∃ a b, x = some (a, b) ∧ k a b = some r := by
  cases x with
  | none => cases h
  | some a => exact ⟨a.1, a.2, rfl, h⟩
theorem o3_at {α β γ δ : Type} {x : Option (α × β × γ)} {k : α → β → γ → Option δ} {r : δ} (h : o3 x k = some r) : ∃ a b c, x = some (a, b, c) ∧ k a b c = some r := by
  cases x with
  | none => cases h
  | some a => exact ⟨a.1, a.2.1, a.2.2, rfl, h⟩
theorem o4_at {α β γ δ ε : Type} {x : Option (α × β × γ × δ)} {k : α → β → γ → δ → Option ε} {r : ε} (h : o4 x k = some r) : ∃ a b c d, x = some (a, b, c, d) ∧ k a b c d = some r := by
  cases x with
  | none => cases h
  | some a => exact ⟨a.1, a.2.1, a.2.2.1, a.2.2.2, rfl, h⟩
def o5 {α0 α1 α2 α3 α4 δ : Type} (x : Option (α0 × α1 × α2 × α3 × α4)) (k : α0 → α1 → α2 → α3 → α4 → Option δ) : Option δ := match x with
  | none => none
  | some (a0, a1, a2, a3, a4) => k a0 a1 a2 a3 a4
theorem o5_at {α0 α1 α2 α3 α4 δ : Type} {x : Option (α0 × α1 × α2 × α3 × α4)} {k : α0 → α1 → α2 → α3 → α4 → Option δ} {r : δ} (h : o5 x k = some r) : ∃ a0 a1 a2 a3 a4, x = some (a0, a1, a2, a3, a4) ∧ k a0 a1 a2 a3 a4 = some r := by
  cases x with
  | none => cases h
  | some a =>
    obtain ⟨a0, a1, a2, a3, a4⟩ := a
    exact ⟨a0, a1, a2, a3, a4, rfl, h⟩
theorem kp_5 {α0 α1 α2 α3 α4 : Type} {a0 b0 : α0} {a1 b1 : α1} {a2 b2 : α2} {a3 b3 : α3} {a4 b4 : α4} (h : some (a0, a1, a2, a3, a4) = some (b0, b1, b2, b3, b4)) : a0 = b0 ∧ a1 = b1 ∧ a2 = b2 ∧ a3 = b3 ∧ a4 = b4 := by
  cases h
  exact ⟨rfl, rfl, rfl, rfl, rfl⟩
def o6 {α0 α1 α2 α3 α4 α5 δ : Type} (x : Option (α0 × α1 × α2 × α3 × α4 × α5)) (k : α0 → α1 → α2 → α3 → α4 → α5 → Option δ) : Option δ := match x with
  | none => none
  | some (a0, a1, a2, a3, a4, a5) => k a0 a1 a2 a3 a4 a5
theorem o6_at {α0 α1 α2 α3 α4 α5 δ : Type} {x : Option (α0 × α1 × α2 × α3 × α4 × α5)} {k : α0 → α1 → α2 → α3 → α4 → α5 → Option δ} {r : δ} (h : o6 x k = some r) : ∃ a0 a1 a2 a3 a4 a5, x = some (a0, a1, a2, a3, a4, a5) ∧ k a0 a1 a2 a3 a4 a5 = some r := by
  cases x with
  | none => cases h
  | some a =>
    obtain ⟨a0, a1, a2, a3, a4, a5⟩ := a
    exact ⟨a0, a1, a2, a3, a4, a5, rfl, h⟩
theorem kp_6 {α0 α1 α2 α3 α4 α5 : Type} {a0 b0 : α0} {a1 b1 : α1} {a2 b2 : α2} {a3 b3 : α3} {a4 b4 : α4} {a5 b5 : α5} (h : some (a0, a1, a2, a3, a4, a5) = some (b0, b1, b2, b3, b4, b5)) : a0 = b0 ∧ a1 = b1 ∧ a2 = b2 ∧ a3 = b3 ∧ a4 = b4 ∧ a5 = b5 := by
  cases h
  exact ⟨rfl, rfl, rfl, rfl, rfl, rfl⟩
def o7 {α0 α1 α2 α3 α4 α5 α6 δ : Type} (x : Option (α0 × α1 × α2 × α3 × α4 × α5 × α6)) (k : α0 → α1 → α2 → α3 → α4 → α5 → α6 → Option δ) : Option δ := match x with
  | none => none
  | some (a0, a1, a2, a3, a4, a5, a6) => k a0 a1 a2 a3 a4 a5 a6
theorem o7_at {α0 α1 α2 α3 α4 α5 α6 δ : Type} {x : Option (α0 × α1 × α2 × α3 × α4 × α5 × α6)} {k : α0 → α1 → α2 → α3 → α4 → α5 → α6 → Option δ} {r : δ} (h : o7 x k = some r) : ∃ a0 a1 a2 a3 a4 a5 a6, x = some (a0, a1, a2, a3, a4, a5, a6) ∧ k a0 a1 a2 a3 a4 a5 a6 = some r := by
  cases x with
  | none => cases h
  | some a =>
    obtain ⟨a0, a1, a2, a3, a4, a5, a6⟩ := a
    exact ⟨a0, a1, a2, a3, a4, a5, a6, rfl, h⟩
theorem kp_7 {α0 α1 α2 α3 α4 α5 α6 : Type} {a0 b0 : α0} {a1 b1 : α1} {a2 b2 : α2} {a3 b3 : α3} {a4 b4 : α4} {a5 b5 : α5} {a6 b6 : α6} (h : some (a0, a1, a2, a3, a4, a5, a6) = some (b0, b1, b2, b3, b4, b5, b6)) : a0 = b0 ∧ a1 = b1 ∧ a2 = b2 ∧ a3 = b3 ∧ a4 = b4 ∧ a5 = b5 ∧ a6 = b6 := by
  cases h
  exact ⟨rfl, rfl, rfl, rfl, rfl, rfl, rfl⟩
def o8 {α0 α1 α2 α3 α4 α5 α6 α7 δ : Type} (x : Option (α0 × α1 × α2 × α3 × α4 × α5 × α6 × α7)) (k : α0 → α1 → α2 → α3 → α4 → α5 → α6 → α7 → Option δ) : Option δ := match x with
  | none => none
  | some (a0, a1, a2, a3, a4, a5, a6, a7) => k a0 a1 a2 a3 a4 a5 a6 a7
theorem o8_at {α0 α1 α2 α3 α4 α5 α6 α7 δ : Type} {x : Option (α0 × α1 × α2 × α3 × α4 × α5 × α6 × α7)} {k : α0 → α1 → α2 → α3 → α4 → α5 → α6 → α7 → Option δ} {r : δ} (h : o8 x k = some r) : ∃ a0 a1 a2 a3 a4 a5 a6 a7, x = some (a0, a1, a2, a3, a4, a5, a6, a7) ∧ k a0 a1 a2 a3 a4 a5 a6 a7 = some r := by
  cases x with
  | none => cases h
  | some a =>
    obtain ⟨a0, a1, a2, a3, a4, a5, a6, a7⟩ := a
    exact ⟨a0, a1, a2, a3, a4, a5, a6, a7, rfl, h⟩
theorem kp_8 {α0 α1 α2 α3 α4 α5 α6 α7 : Type} {a0 b0 : α0} {a1 b1 : α1} {a2 b2 : α2} {a3 b3 : α3} {a4 b4 : α4} {a5 b5 : α5} {a6 b6 : α6} {a7 b7 : α7} (h : some (a0, a1, a2, a3, a4, a5, a6, a7) = some (b0, b1, b2, b3, b4, b5, b6, b7)) : a0 = b0 ∧ a1 = b1 ∧ a2 = b2 ∧ a3 = b3 ∧ a4 = b4 ∧ a5 = b5 ∧ a6 = b6 ∧ a7 = b7 := by
  cases h
  exact ⟨rfl, rfl, rfl, rfl, rfl, rfl, rfl, rfl⟩
def o9 {α0 α1 α2 α3 α4 α5 α6 α7 α8 δ : Type} (x : Option (α0 × α1 × α2 × α3 × α4 × α5 × α6 × α7 × α8)) (k : α0 → α1 → α2 → α3 → α4 → α5 → α6 → α7 → α8 → Option δ) : Option δ := match x with
  | none => none
  | some (a0, a1, a2, a3, a4, a5, a6, a7, a8) => k a0 a1 a2 a3 a4 a5 a6 a7 a8
theorem o9_at {α0 α1 α2 α3 α4 α5 α6 α7 α8 δ : Type} {x : Option (α0 × α1 × α2 × α3 × α4 × α5 × α6 × α7 × α8)} {k : α0 → α1 → α2 → α3 → α4 → α5 → α6 → α7 → α8 → Option δ} {r : δ} (h : o9 x k = some r) : ∃ a0 a1 a2 a3 a4 a5 a6 a7 a8, x = some (a0, a1, a2, a3, a4, a5, a6, a7, a8) ∧ k a0 a1 a2 a3 a4 a5 a6 a7 a8 = some r := by
  cases x with
  | none => cases h
  | some a =>
    obtain ⟨a0, a1, a2, a3, a4, a5, a6, a7, a8⟩ := a
    exact ⟨a0, a1, a2, a3, a4, a5, a6, a7, a8, rfl, h⟩
theorem kp_9 {α0 α1 α2 α3 α4 α5 α6 α7 α8 : Type} {a0 b0 : α0} {a1 b1 : α1} {a2 b2 : α2} {a3 b3 : α3} {a4 b4 : α4} {a5 b5 : α5} {a6 b6 : α6} {a7 b7 : α7} {a8 b8 : α8} (h : some (a0, a1, a2, a3, a4, a5, a6, a7, a8) = some (b0, b1, b2, b3, b4, b5, b6, b7, b8)) : a0 = b0 ∧ a1 = b1 ∧ a2 = b2 ∧ a3 = b3 ∧ a4 = b4 ∧ a5 = b5 ∧ a6 = b6 ∧ a7 = b7 ∧ a8 = b8 := by
  cases h
  exact ⟨rfl, rfl, rfl, rfl, rfl, rfl, rfl, rfl, rfl⟩
def o10 {α0 α1 α2 α3 α4 α5 α6 α7 α8 α9 δ : Type} (x : Option (α0 × α1 × α2 × α3 × α4 × α5 × α6 × α7 × α8 × α9)) (k : α0 → α1 → α2 → α3 → α4 → α5 → α6 → α7 → α8 → α9 → Option δ) : Option δ := match x with
  | none => none
  | some (a0, a1, a2, a3, a4, a5, a6, a7, a8, a9) => k a0 a1 a2 a3 a4 a5 a6 a7 a8 a9
theorem o10_at {α0 α1 α2 α3 α4 α5 α6 α7 α8 α9 δ : Type} {x : Option (α0 × α1 × α2 × α3 × α4 × α5 × α6 × α7 × α8 × α9)} {k : α0 → α1 → α2 → α3 → α4 → α5 → α6 → α7 → α8 → α9 → Option δ} {r : δ} (h : o10 x k = some r) : ∃ a0 a1 a2 a3 a4 a5 a6 a7 a8 a9, x = some (a0, a1, a2, a3, a4, a5, a6, a7, a8, a9) ∧ k a0 a1 a2 a3 a4 a5 a6 a7 a8 a9 = some r := by
  cases x with
  | none => cases h
  | some a =>
    obtain ⟨a0, a1, a2, a3, a4, a5, a6, a7, a8, a9⟩ := a
    exact ⟨a0, a1, a2, a3, a4, a5, a6, a7, a8, a9, rfl, h⟩
theorem kp_10 {α0 α1 α2 α3 α4 α5 α6 α7 α8 α9 : Type} {a0 b0 : α0} {a1 b1 : α1} {a2 b2 : α2} {a3 b3 : α3} {a4 b4 : α4} {a5 b5 : α5} {a6 b6 : α6} {a7 b7 : α7} {a8 b8 : α8} {a9 b9 : α9} (h : some (a0, a1, a2, a3, a4, a5, a6, a7, a8, a9) = some (b0, b1, b2, b3, b4, b5, b6, b7, b8, b9)) : a0 = b0 ∧ a1 = b1 ∧ a2 = b2 ∧ a3 = b3 ∧ a4 = b4 ∧ a5 = b5 ∧ a6 = b6 ∧ a7 = b7 ∧ a8 = b8 ∧ a9 = b9 := by
  cases h
  exact ⟨rfl, rfl, rfl, rfl, rfl, rfl, rfl, rfl, rfl, rfl⟩
def o11 {α0 α1 α2 α3 α4 α5 α6 α7 α8 α9 α10 δ : Type} (x : Option (α0 × α1 × α2 × α3 × α4 × α5 × α6 × α7 × α8 × α9 × α10)) (k : α0 → α1 → α2 → α3 → α4 → α5 → α6 → α7 → α8 → α9 → α10 → Option δ) : Option δ := match x with
  | none => none
  | some (a0, a1, a2, a3, a4, a5, a6, a7, a8, a9, a10) => k a0 a1 a2 a3 a4 a5 a6 a7 a8 a9 a10
theorem o11_at {α0 α1 α2 α3 α4 α5 α6 α7 α8 α9 α10 δ : Type} {x : Option (α0 × α1 × α2 × α3 × α4 × α5 × α6 × α7 × α8 × α9 × α10)} {k : α0 → α1 → α2 → α3 → α4 → α5 → α6 → α7 → α8 → α9 → α10 → Option δ} {r : δ} (h : o11 x k = some r) : ∃ a0 a1 a2 a3 a4 a5 a6 a7 a8 a9 a10, x = some (a0, a1, a2, a3, a4, a5, a6, a7, a8, a9, a10) ∧ k a0 a1 a2 a3 a4 a5 a6 a7 a8 a9 a10 = some r := by
  cases x with
  | none => cases h
  | some a =>
    obtain ⟨a0, a1, a2, a3, a4, a5, a6, a7, a8, a9, a10⟩ := a
    exact ⟨a0, a1, a2, a3, a4, a5, a6, a7, a8, a9, a10, rfl, h⟩
theorem kp_11 {α0 α1 α2 α3 α4 α5 α6 α7 α8 α9 α10 : Type} {a0 b0 : α0} {a1 b1 : α1} {a2 b2 : α2} {a3 b3 : α3} {a4 b4 : α4} {a5 b5 : α5} {a6 b6 : α6} {a7 b7 : α7} {a8 b8 : α8} {a9 b9 : α9} {a10 b10 : α10} (h : some (a0, a1, a2, a3, a4, a5, a6, a7, a8, a9, a10) = some (b0, b1, b2, b3, b4, b5, b6, b7, b8, b9, b10)) : a0 = b0 ∧ a1 = b1 ∧ a2 = b2 ∧ a3 = b3 ∧ a4 = b4 ∧ a5 = b5 ∧ a6 = b6 ∧ a7 = b7 ∧ a8 = b8 ∧ a9 = b9 ∧ a10 = b10 := by
  cases h
  exact ⟨rfl, rfl, rfl, rfl, rfl, rfl, rfl, rfl, rfl, rfl, rfl⟩
def o12 {α0 α1 α2 α3 α4 α5 α6 α7 α8 α9 α10 α11 δ : Type} (x : Option (α0 × α1 × α2 × α3 × α4 × α5 × α6 × α7 × α8 × α9 × α10 × α11)) (k : α0 → α1 → α2 → α3 → α4 → α5 → α6 → α7 → α8 → α9 → α10 → α11 → Option δ) : Option δ := match x with
  | none => none
  | some (a0, a1, a2, a3, a4, a5, a6, a7, a8, a9, a10, a11) => k a0 a1 a2 a3 a4 a5 a6 a7 a8 a9 a10 a11
theorem o12_at {α0 α1 α2 α3 α4 α5 α6 α7 α8 α9 α10 α11 δ : Type} {x : Option (α0 × α1 × α2 × α3 × α4 × α5 × α6 × α7 × α8 × α9 × α10 × α11)} {k : α0 → α1 → α2 → α3 → α4 → α5 → α6 → α7 → α8 → α9 → α10 → α11 → Option δ} {r : δ} (h : o12 x k = some r) : ∃ a0 a1 a2 a3 a4 a5 a6 a7 a8 a9 a10 a11, x = some (a0, a1, a2, a3, a4, a5, a6, a7, a8, a9, a10, a11) ∧ k a0 a1 a2 a3 a4 a5 a6 a7 a8 a9 a10 a11 = some r := by
  cases x with
  | none => cases h
  | some a =>
    obtain ⟨a0, a1, a2, a3, a4, a5, a6, a7, a8, a9, a10, a11⟩ := a
    exact ⟨a0, a1, a2, a3, a4, a5, a6, a7, a8, a9, a10, a11, rfl, h⟩
theorem kp_12 {α0 α1 α2 α3 α4 α5 α6 α7 α8 α9 α10 α11 : Type} {a0 b0 : α0} {a1 b1 : α1} {a2 b2 : α2} {a3 b3 : α3} {a4 b4 : α4} {a5 b5 : α5} {a6 b6 : α6} {a7 b7 : α7} {a8 b8 : α8} {a9 b9 : α9} {a10 b10 : α10} {a11 b11 : α11} (h : some (a0, a1, a2, a3, a4, a5, a6, a7, a8, a9, a10, a11) = some (b0, b1, b2, b3, b4, b5, b6, b7, b8, b9, b10, b11)) : a0 = b0 ∧ a1 = b1 ∧ a2 = b2 ∧ a3 = b3 ∧ a4 = b4 ∧ a5 = b5 ∧ a6 = b6 ∧ a7 = b7 ∧ a8 = b8 ∧ a9 = b9 ∧ a10 = b10 ∧ a11 = b11 := by
  cases h
  exact ⟨rfl, rfl, rfl, rfl, rfl, rfl, rfl, rfl, rfl, rfl, rfl, rfl⟩
def o13 {α0 α1 α2 α3 α4 α5 α6 α7 α8 α9 α10 α11 α12 δ : Type} (x : Option (α0 × α1 × α2 × α3 × α4 × α5 × α6 × α7 × α8 × α9 × α10 × α11 × α12)) (k : α0 → α1 → α2 → α3 → α4 → α5 → α6 → α7 → α8 → α9 → α10 → α11 → α12 → Option δ) : Option δ := match x with
  | none => none
  | some (a0, a1, a2, a3, a4, a5, a6, a7, a8, a9, a10, a11, a12) => k a0 a1 a2 a3 a4 a5 a6 a7 a8 a9 a10 a11 a12
theorem o13_at {α0 α1 α2 α3 α4 α5 α6 α7 α8 α9 α10 α11 α12 δ : Type} {x : Option (α0 × α1 × α2 × α3 × α4 × α5 × α6 × α7 × α8 × α9 × α10 × α11 × α12)} {k : α0 → α1 → α2 → α3 → α4 → α5 → α6 → α7 → α8 → α9 → α10 → α11 → α12 → Option δ} {r : δ} (h : o13 x k = some r) : ∃ a0 a1 a2 a3 a4 a5 a6 a7 a8 a9 a10 a11 a12, x = some (a0, a1, a2, a3, a4, a5, a6, a7, a8, a9, a10, a11, a12) ∧ k a0 a1 a2 a3 a4 a5 a6 a7 a8 a9 a10 a11 a12 = some r := by
  cases x with
  | none => cases h
  | some a =>
    obtain ⟨a0, a1, a2, a3, a4, a5, a6, a7, a8, a9, a10, a11, a12⟩ := a
    exact ⟨a0, a1, a2, a3, a4, a5, a6, a7, a8, a9, a10, a11, a12, rfl, h⟩
theorem kp_13 {α0 α1 α2 α3 α4 α5 α6 α7 α8 α9 α10 α11 α12 : Type} {a0 b0 : α0} {a1 b1 : α1} {a2 b2 : α2} {a3 b3 : α3} {a4 b4 : α4} {a5 b5 : α5} {a6 b6 : α6} {a7 b7 : α7} {a8 b8 : α8} {a9 b9 : α9} {a10 b10 : α10} {a11 b11 : α11} {a12 b12 : α12} (h : some (a0, a1, a2, a3, a4, a5, a6, a7, a8, a9, a10, a11, a12) = some (b0, b1, b2, b3, b4, b5, b6, b7, b8, b9, b10, b11, b12)) : a0 = b0 ∧ a1 = b1 ∧ a2 = b2 ∧ a3 = b3 ∧ a4 = b4 ∧ a5 = b5 ∧ a6 = b6 ∧ a7 = b7 ∧ a8 = b8 ∧ a9 = b9 ∧ a10 = b10 ∧ a11 = b11 ∧ a12 = b12 := by
  cases h
  exact ⟨rfl, rfl, rfl, rfl, rfl, rfl, rfl, rfl, rfl, rfl, rfl, rfl, rfl⟩
def o14 {α0 α1 α2 α3 α4 α5 α6 α7 α8 α9 α10 α11 α12 α13 δ : Type} (x : Option (α0 × α1 × α2 × α3 × α4 × α5 × α6 × α7 × α8 × α9 × α10 × α11 × α12 × α13)) (k : α0 → α1 → α2 → α3 → α4 → α5 → α6 → α7 → α8 → α9 → α10 → α11 → α12 → α13 → Option δ) : Option δ := match x with
  | none => none
  | some (a0, a1, a2, a3, a4, a5, a6, a7, a8, a9, a10, a11, a12, a13) => k a0 a1 a2 a3 a4 a5 a6 a7 a8 a9 a10 a11 a12 a13
theorem o14_at {α0 α1 α2 α3 α4 α5 α6 α7 α8 α9 α10 α11 α12 α13 δ : Type} {x : Option (α0 × α1 × α2 × α3 × α4 × α5 × α6 × α7 × α8 × α9 × α10 × α11 × α12 × α13)} {k : α0 → α1 → α2 → α3 → α4 → α5 → α6 → α7 → α8 → α9 → α10 → α11 → α12 → α13 → Option δ} {r : δ} (h : o14 x k = some r) : ∃ a0 a1 a2 a3 a4 a5 a6 a7 a8 a9 a10 a11 a12 a13, x = some (a0, a1, a2, a3, a4, a5, a6, a7, a8, a9, a10, a11, a12, a13) ∧ k a0 a1 a2 a3 a4 a5 a6 a7 a8 a9 a10 a11 a12 a13 = some r := by
  cases x with
  | none => cases h
  | some a =>
    obtain ⟨a0, a1, a2, a3, a4, a5, a6, a7, a8, a9, a10, a11, a12, a13⟩ := a
    exact ⟨a0, a1, a2, a3, a4, a5, a6, a7, a8, a9, a10, a11, a12, a13, rfl, h⟩
theorem kp_14 {α0 α1 α2 α3 α4 α5 α6 α7 α8 α9 α10 α11 α12 α13 : Type} {a0 b0 : α0} {a1 b1 : α1} {a2 b2 : α2} {a3 b3 : α3} {a4 b4 : α4} {a5 b5 : α5} {a6 b6 : α6} {a7 b7 : α7} {a8 b8 : α8} {a9 b9 : α9} {a10 b10 : α10} {a11 b11 : α11} {a12 b12 : α12} {a13 b13 : α13} (h : some (a0, a1, a2, a3, a4, a5, a6, a7, a8, a9, a10, a11, a12, a13) = some (b0, b1, b2, b3, b4, b5, b6, b7, b8, b9, b10, b11, b12, b13)) : a0 = b0 ∧ a1 = b1 ∧ a2 = b2 ∧ a3 = b3 ∧ a4 = b4 ∧ a5 = b5 ∧ a6 = b6 ∧ a7 = b7 ∧ a8 = b8 ∧ a9 = b9 ∧ a10 = b10 ∧ a11 = b11 ∧ a12 = b12 ∧ a13 = b13 := by
  cases h
  exact ⟨rfl, rfl, rfl, rfl, rfl, rfl, rfl, rfl, rfl, rfl, rfl, rfl, rfl, rfl⟩
def jn {T β : Type} (K : T) (B : T → β) : β := B K
theorem jn_at {T β : Type} {K : T} {B : T → Option β} {r : β} (h : jn K B = some r) : ∃ k, k = K ∧ B k = some r := ⟨K, rfl, h⟩
def lp {T : Type} (body : T → T) (bot : T) : Nat → T
  | 0 => bot
  | n + 1 => body (lp body bot n)
def FU : Nat := 1000000
theorem lp_ind {T : Type} {body : T → T} {bot : T} (P : T → Prop) (h0 : P bot) (hs : ∀ f, P f → P (body f)) (n : Nat) : P (lp body bot n) := by
  induction n with
  | zero => exact h0
  | succ n ih => exact hs _ ih
theorem it_t {α : Type} {c : Prop} [Decidable c] {a b r : α} (h : (if c then a else b) = r) (hc : c) : a = r := by rw [if_pos hc] at h; exact h
theorem it_f {α : Type} {c : Prop} [Decidable c] {a b r : α} (h : (if c then a else b) = r) (hc : ¬ c) : b = r := by rw [if_neg hc] at h; exact h

/-! what lies outside: String constants, static arrays, what a throw needs -/
abbrev adK (g : Gx) : Nat → Nat := g.2.2.2.2.2.1
abbrev adV (g : Gx) : Nat → Nat := g.2.2.2.2.2.2.1
abbrev adS (g : Gx) : Nat → Nat := g.2.2.2.2.2.2.2
def lenS : List Nat := [8, 3, 6, 3, 7, 5, 4, 6, 3, 4, 18, 3, 3, 16, 7, 8, 2, 6, 7, 4, 5, 4, 4, 1, 4, 3]
def bytS : List (List Int32) := [[49, 54, 32, 116, 101, 115, 116, 115], [97, 110, 100], [98, 114, 105, 100, 103, 101], [98, 117, 102], [99, 105, 114, 99, 117, 105, 116], [102, 97, 117, 108, 116], [103, 97, 116, 101], [108, 101, 110, 103, 116, 104], [109, 117, 120], [110, 97, 110, 100], [110, 111, 32, 103, 97, 116, 101, 32, 111, 114, 32, 110, 111, 32, 107, 105, 110, 100], [110, 111, 114], [110, 111, 116], [111, 110, 101, 115, 32, 111, 114, 32, 117, 110, 107, 110, 111, 119, 110, 115], [111, 112, 101, 114, 97, 110, 100], [111, 112, 101, 114, 97, 110, 100, 115], [111, 114], [111, 117, 116, 112, 117, 116], [115, 117, 115, 112, 101, 99, 116], [116, 101, 115, 116], [118, 97, 108, 117, 101], [119, 104, 97, 116], [119, 105, 114, 101], [120], [120, 110, 111, 114], [120, 111, 114]]
def stT : List (String × Nat × String × Nat) := [("FaultTests", 147, "what", 21), ("FaultTests", 169, "operand", 14), ("FaultTests", 232, "suspect", 18), ("FaultTests", 241, "ones or unknowns", 13), ("FaultTests", 245, "16 tests", 0), ("FaultTests", 255, "no gate or no kind", 10), ("FaultTests", 263, "operands", 15), ("FaultTests", 267, "output", 17), ("FaultTests", 270, "value", 20), ("FaultTests", 309, "wire", 22), ("FaultTests", 310, "test", 19), ("FaultTests", 312, "fault", 5), ("FaultTests", 75, "length", 7), ("FaultTests$SetupReader", 166, "x", 23), ("FaultTests$SetupReader", 172, "and", 1), ("FaultTests$SetupReader", 174, "or", 16), ("FaultTests$SetupReader", 176, "nand", 9), ("FaultTests$SetupReader", 178, "nor", 11), ("FaultTests$SetupReader", 180, "xor", 25), ("FaultTests$SetupReader", 182, "xnor", 24), ("FaultTests$SetupReader", 184, "not", 12), ("FaultTests$SetupReader", 186, "buf", 3), ("FaultTests$SetupReader", 188, "mux", 8), ("FaultTests$SetupReader", 67, "circuit", 4), ("FaultTests$SetupReader", 80, "gate", 6), ("FaultTests$SetupReader", 85, "output", 17), ("FaultTests$SetupReader", 90, "bridge", 2), ("FaultTests$SetupReader", 95, "test", 19), ("FaultTestsModel", 194, "and", 1), ("FaultTestsModel", 200, "or", 16), ("FaultTestsModel", 202, "nand", 9), ("FaultTestsModel", 204, "nor", 11), ("FaultTestsModel", 206, "xor", 25), ("FaultTestsModel", 208, "xnor", 24), ("FaultTestsModel", 210, "not", 12), ("FaultTestsModel", 212, "buf", 3), ("FaultTestsModel", 214, "mux", 8), ("FaultTestsModel", 232, "x", 23), ("FaultTestsModel", 234, "gate", 6), ("FaultTestsModel", 238, "output", 17), ("FaultTestsModel", 243, "bridge", 2), ("FaultTestsModel", 248, "test", 19), ("FaultTestsModel", 256, "circuit", 4)]
def lanesJ : Nat → Int64 := fun j => ([-6148914691236517206, -3689348814741910324, -1085102592571150096, -71777214294589696, -281470681808896, -4294967296] : List Int64).getD j 0
def fewI : Nat → Int32 := fun j => ([2, 2, 2, 2, 2, 2, 1, 1, 3] : List Int32).getD j 0
def mostI : Nat → Int32 := fun j => ([4, 4, 4, 4, 4, 4, 1, 1, 3] : List Int32).getD j 0
def nfT : List (String × Nat × String × String × String × String) := [("FaultTests$Lanes", 22, "FaultTests", "LANES_WITH_BIT", "[J", "FaultTests"), ("FaultTests$SetupReader", 115, "FaultTests", "MOST_OPERANDS", "[I", "FaultTests"), ("FaultTests$SetupReader", 124, "FaultTests", "FEWEST_OPERANDS", "[I", "FaultTests")]
def nmT : List (String × Nat × MethodName × String) := [("FaultTests", 11, yX5_init, "FaultTests"), ("FaultTests$SetupReader", 11, yX4_init, "FaultTests"), ("FaultTests$Setup", 18, yX6_init, "FaultTests"), ("FaultTests", 18, yX4_init, "FaultTests"), ("FaultTests$History", 24, yX4_init, "FaultTests"), ("FaultTests$Rows", 11, yX2_init, "FaultTests"), ("FaultTests$Rows", 84, yX7_hasLane, "FaultTests"), ("FaultTests$Lanes", 18, yX7_hasLane, "FaultTests")]
def exT : List String := ["java/lang/IllegalArgumentException", "java/lang/IndexOutOfBoundsException", "java/util/NoSuchElementException", "java/lang/IllegalStateException"]
def dcT : List MethodName := [Bundle.initS "java/lang/RuntimeException", Bundle.initS "java/lang/Exception", Bundle.initS Bundle.tN]
def ncT : List (String × String) := [("java/lang/IllegalArgumentException", "java/lang/IndexOutOfBoundsException"), ("java/util/NoSuchElementException", "java/lang/IndexOutOfBoundsException"), ("java/lang/IllegalStateException", "java/lang/IllegalArgumentException")]
/-- the exceptions by their numbers -/
def exN (k : Nat) : String := if k = 1 then "java/lang/IllegalArgumentException" else if k = 2 then "java/lang/IndexOutOfBoundsException" else if k = 3 then "java/util/NoSuchElementException" else "java/lang/IllegalStateException"
def bdT : List Cond := dcT.map .declares ++ exT.map (fun x => .castable x x)
/-- what the tables say and a run keeps -/
def BV (g : Gx) (U : State) : Prop :=
  (∀ q ∈ stT, vk_R q.1 q.2.1 q.2.2.1 (adK g q.2.2.2) U) ∧
  (∀ q ∈ nfT, va_Nw (.fieldLinkNest q.1 q.2.1 q.2.2.1 q.2.2.2.1 q.2.2.2.2.1 q.2.2.2.2.2) U) ∧
  (∀ q ∈ nmT, va_Nw (.methodLinkNest q.1 q.2.1 q.2.2.1 q.2.2.2) U) ∧ va_AO "FaultTests$Setup" U ∧
  (∀ x ∈ dcT, va_Nw (.declares x) U) ∧ (∀ x ∈ exT, va_Nw (.castable x x) U) ∧ ∀ q ∈ ncT, va_Nc q.1 q.2 U
theorem BV.warm {g : Gx} {s U : State} (hW : s.WarmedH U.vm) (h : BV g s) : BV g U :=
  ⟨fun q hq => vk_R.warm hW (h.1 q hq), fun q hq => va_Nw.warmF hW (h.2.1 q hq), fun q hq => va_Nw.warmM hW (h.2.2.1 q hq), va_AO.moved hW.alike h.2.2.2.1, fun q hq => va_Nw.warmD hW (h.2.2.2.2.1 q hq), fun q hq => va_Nw.warmC hW (h.2.2.2.2.2.1 q hq), fun q hq => va_Nc.moved hW.alike (h.2.2.2.2.2.2 q hq)⟩
theorem BV.same {g : Gx} {u U : State} (hv : U.vm = u.vm) (h : BV g u) : BV g U :=
  ⟨fun q hq => vk_R.same hv (h.1 q hq), fun q hq => va_Nw.same rfl hv.symm (h.2.1 q hq), fun q hq => va_Nw.same rfl hv.symm (h.2.2.1 q hq), va_AO.moved (by rw [hv]; exact Vm.Alike.refl _) h.2.2.2.1, fun q hq => va_Nw.same rfl hv.symm (h.2.2.2.2.1 q hq), fun q hq => va_Nw.same rfl hv.symm (h.2.2.2.2.2.1 q hq), fun q hq => va_Nc.moved (by rw [hv]; exact Vm.Alike.refl _) (h.2.2.2.2.2.2 q hq)⟩
def BG (g : Gx) (A : Nat → Prop) (U : State) (H : Heap) : Prop :=
  BV g U ∧ (vx_Zq Bundle.tN "UNASSIGNED_STACK" Bundle.steD A U H ∧ vx_Zq Bundle.tN "SUPPRESSED_SENTINEL" Bundle.listD A U H) ∧
  vk_S 26 lenS bytS (adK g) (adV g) A U H ∧
  (va_Z "java/lang/String" "COMPACT_STRINGS" "Z" (.int 1) A U H ∧ va_Zq "jdk/internal/util/Preconditions" "SIOOBE_FORMATTER" "Ljava/util/function/BiFunction;" A U H) ∧
  (va_Z "FaultTests" "LANES_WITH_BIT" "[J" (.ref (adS g 0)) A U H ∧ va_T .long (adS g 0) 6 (fun j => .long (lanesJ j)) A U H) ∧
  (va_Z "FaultTests" "FEWEST_OPERANDS" "[I" (.ref (adS g 1)) A U H ∧ va_T .int (adS g 1) 9 (fun j => .int (fewI j)) A U H) ∧
  (va_Z "FaultTests" "MOST_OPERANDS" "[I" (.ref (adS g 2)) A U H ∧ va_T .int (adS g 2) 9 (fun j => .int (mostI j)) A U H)
theorem BG.kept {g : Gx} {A : Nat → Prop} {U : State} {H H1 : Heap} (h : BG g A U H) (hq : ∀ a : Nat, a < H.size → ¬ A a → H1[a]? = H[a]?) : BG g A U H1 := by
  obtain ⟨v, ⟨a1, a2⟩, b1, ⟨c1, c2⟩, ⟨d1, d2⟩, ⟨e1, e2⟩, ⟨f1, f2⟩⟩ := h
  exact ⟨v, ⟨a1.kept hq, a2.kept hq⟩, b1.kept hq, ⟨c1.kept hq, c2.kept hq⟩, ⟨d1.kept hq, d2.kept hq⟩, ⟨e1.kept hq, e2.kept hq⟩, ⟨f1.kept hq, f2.kept hq⟩⟩
theorem BG.narrow {g : Gx} {A B : Nat → Prop} {U : State} {H : Heap} (h : BG g A U H) (hq : ∀ q, B q → A q) : BG g B U H := by
  obtain ⟨v, ⟨a1, a2⟩, b1, ⟨c1, c2⟩, ⟨d1, d2⟩, ⟨e1, e2⟩, ⟨f1, f2⟩⟩ := h
  exact ⟨v, ⟨a1.narrow hq, a2.narrow hq⟩, b1.narrow hq, ⟨c1.narrow hq, c2.narrow hq⟩, ⟨d1.narrow hq, d2.narrow hq⟩, ⟨e1.narrow hq, e2.narrow hq⟩, ⟨f1.narrow hq, f2.narrow hq⟩⟩
theorem BG.moved {g : Gx} {A : Nat → Prop} {u U : State} {H : Heap} (hv : u.vm.Alike U.vm) (hr : BV g U) (h : BG g A u H) : BG g A U H := by
  obtain ⟨v, ⟨a1, a2⟩, b1, ⟨c1, c2⟩, ⟨d1, d2⟩, ⟨e1, e2⟩, ⟨f1, f2⟩⟩ := h
  exact ⟨hr, ⟨vx_Zq.moved hv a1, vx_Zq.moved hv a2⟩, vk_S.moved hv b1, ⟨va_Z.moved hv c1, va_Zq.moved hv c2⟩, ⟨va_Z.moved hv d1, va_T.moved hv d2⟩, ⟨va_Z.moved hv e1, va_T.moved hv e2⟩, ⟨va_Z.moved hv f1, va_T.moved hv f2⟩⟩
theorem BG.warm {g : Gx} {A : Nat → Prop} {s U : State} {H : Heap} (hW : s.WarmedH U.vm) (h : BG g A s H) : BG g A U H := BG.moved hW.alike (h.1.warm hW) h
theorem BG.same {g : Gx} {A : Nat → Prop} {u U : State} {H : Heap} (hv : U.vm = u.vm) (h : BG g A u H) : BG g A U H := BG.moved (by rw [hv]; exact Vm.Alike.refl _) (h.1.same hv) h
theorem BV.bad {g : Gx} {s : State} {args : Array Value} (h : BV g s) : ∀ w ∈ bdT, w.before args s = true := by
  intro w hw
  rcases List.mem_append.mp hw with h1 | h1
  · obtain ⟨x, hx, rfl⟩ := List.mem_map.mp h1
    exact va_Nw.use rfl (h.2.2.2.2.1 x hx)
  · obtain ⟨x, hx, rfl⟩ := List.mem_map.mp h1
    exact va_Nw.use rfl (h.2.2.2.2.2.1 x hx)
/-! contracts: the answer and the new values are known from the pure program -/
def wB (g : Gx) (ws : va_W) (sz : Nat) : State → Prop := fun U => U.heap.size = sz ∧ va_P g.1 vwCl ws U.heap ∧ va_K g.1 vwCl (tyL g) U ∧ va_D (fun _ => True) ws ∧ BG g (va_A ws sz) U U.heap
def wE (g : Gx) (A : Nat → Prop) (ws : va_W) : State → Prop := fun t => va_P g.1 vwCl ws t.heap ∧ va_K g.1 vwCl (tyL g) t ∧ va_D A ws
abbrev qI (g : Gx) (A : Nat → Prop) (w1 : va_W) (r : Int32) : Array Value → State → Outcome → State → Prop := va_Qi (fun (r0 : Int32) (_ : Unit) => r0 = r) (fun _ => wE g A w1) A
abbrev qJ (g : Gx) (A : Nat → Prop) (w1 : va_W) (r : Int64) : Array Value → State → Outcome → State → Prop := va_Ql (fun (r0 : Int64) (_ : Unit) => r0 = r) (fun _ => wE g A w1) A
abbrev qD (g : Gx) (A : Nat → Prop) (w1 : va_W) (r : UInt64) : Array Value → State → Outcome → State → Prop := va_Qd (fun (r0 : UInt64) (_ : Unit) => r0 = r) (fun _ => wE g A w1) A
abbrev qV (g : Gx) (A : Nat → Prop) (w1 : va_W) : Array Value → State → Outcome → State → Prop := va_Qv (fun (_ : Unit) => True) (fun _ => wE g A w1) A
def CtI (l : Launch) (y : MethodName) (wy : List Cond) (rm : Room) (g : Gx) (av : List Value) (w0 w1 : va_W) (r : Int32) (mc ms : Nat) : Prop :=
  ∀ sz, Met l y wy rm (va_Pc av (wB g w0 sz)) (qI g (va_A w0 sz) w1 r) mc ms (va_A w0 sz)
def CtJ (l : Launch) (y : MethodName) (wy : List Cond) (rm : Room) (g : Gx) (av : List Value) (w0 w1 : va_W) (r : Int64) (mc ms : Nat) : Prop :=
  ∀ sz, Met l y wy rm (va_Pc av (wB g w0 sz)) (qJ g (va_A w0 sz) w1 r) mc ms (va_A w0 sz)
def CtD (l : Launch) (y : MethodName) (wy : List Cond) (rm : Room) (g : Gx) (av : List Value) (w0 w1 : va_W) (r : UInt64) (mc ms : Nat) : Prop :=
  ∀ sz, Met l y wy rm (va_Pc av (wB g w0 sz)) (qD g (va_A w0 sz) w1 r) mc ms (va_A w0 sz)
def CtV (l : Launch) (y : MethodName) (wy : List Cond) (rm : Room) (g : Gx) (av : List Value) (w0 w1 : va_W) (mc ms : Nat) : Prop :=
  ∀ sz, Met l y wy rm (va_Pc av (wB g w0 sz)) (qV g (va_A w0 sz) w1) mc ms (va_A w0 sz)
abbrev xE (g : Gx) (A : Nat → Prop) (w1 : va_W) (E : String) : String → State → State → Prop := vx_X (fun _ : Unit => True) (fun E0 _ t => E0 = E ∧ wE g A w1 t) A
abbrev nI0 (A : Nat → Prop) : Array Value → State → Outcome → State → Prop := va_Qi (fun (_ : Int32) (_ : Unit) => False) (fun _ _ => True) A
abbrev nJ0 (A : Nat → Prop) : Array Value → State → Outcome → State → Prop := va_Ql (fun (_ : Int64) (_ : Unit) => False) (fun _ _ => True) A
abbrev nV0 (A : Nat → Prop) : Array Value → State → Outcome → State → Prop := va_Qv (fun (_ : Unit) => False) (fun _ _ => True) A
def CtXI (l : Launch) (y : MethodName) (wy : List Cond) (rm : Room) (g : Gx) (av : List Value) (w0 w1 : va_W) (E : String) (mc ms : Nat) : Prop :=
  ∀ sz, vx_Met l y wy rm (va_Pc av (wB g w0 sz)) (nI0 (va_A w0 sz)) (xE g (va_A w0 sz) w1 E) mc ms (va_A w0 sz)
def CtXJ (l : Launch) (y : MethodName) (wy : List Cond) (rm : Room) (g : Gx) (av : List Value) (w0 w1 : va_W) (E : String) (mc ms : Nat) : Prop :=
  ∀ sz, vx_Met l y wy rm (va_Pc av (wB g w0 sz)) (nJ0 (va_A w0 sz)) (xE g (va_A w0 sz) w1 E) mc ms (va_A w0 sz)
def CtXV (l : Launch) (y : MethodName) (wy : List Cond) (rm : Room) (g : Gx) (av : List Value) (w0 w1 : va_W) (E : String) (mc ms : Nat) : Prop :=
  ∀ sz, vx_Met l y wy rm (va_Pc av (wB g w0 sz)) (nV0 (va_A w0 sz)) (xE g (va_A w0 sz) w1 E) mc ms (va_A w0 sz)
theorem gU_V {own : String} {idx : Nat} {C : String} {y : MethodName} {bytes : ByteArray} {maxL : Nat} {ret : Option FieldType} (h1 : Cond.methodLink own idx y ∈ UW) (hc : Cond.instanceMethod y ∈ UW ∧ Cond.selects C y y ∈ UW ∧ Cond.initialized C ∈ UW ∧ Cond.code y bytes maxL ret ∈ UW) : GoodIn UW (wsV own idx C y (Cond.code y bytes maxL ret :: UW)) := by
  obtain ⟨h2, h3, h4, h5⟩ := hc
  intro w hw
  simp only [wsV, List.mem_append, List.mem_cons, List.not_mem_nil, or_false] at hw
  rcases hw with (rfl | rfl | rfl | rfl) | rfl | hw
  all_goals exact ⟨by assumption, good_of_word (UW_good (by assumption)).2⟩
theorem gU_S {own : String} {idx : Nat} {y : MethodName} {bytes : ByteArray} {maxL : Nat} {ret : Option FieldType} (h1 : Cond.methodLink own idx y ∈ UW) (hc : Cond.static y ∈ UW ∧ Cond.initialized y.cls ∈ UW ∧ Cond.code y bytes maxL ret ∈ UW) : GoodIn UW (va_wsS own idx y (Cond.code y bytes maxL ret :: UW)) := by
  obtain ⟨h2, h3, h5⟩ := hc
  intro w hw
  simp only [va_wsS, List.mem_append, List.mem_cons, List.not_mem_nil, or_false] at hw
  rcases hw with (rfl | rfl | rfl) | rfl | hw
  all_goals exact ⟨by assumption, good_of_word (UW_good (by assumption)).2⟩
theorem gU_0 {y : MethodName} {bytes : ByteArray} {maxL : Nat} {ret : Option FieldType} (h5 : Cond.code y bytes maxL ret ∈ UW) : GoodIn UW (Cond.code y bytes maxL ret :: UW) := by
  intro w hw
  rcases List.mem_cons.mp hw with rfl | hw
  all_goals exact ⟨by assumption, good_of_word (UW_good (by assumption)).2⟩
theorem hdX7_init : yX7_init.cls ≠ "java/lang/invoke/MethodHandle" ∧ yX7_init.cls ≠ "java/lang/invoke/VarHandle" ∧ (parseMethodDescriptor yX7_init.desc).map (fun d => d.parameters.length) = some 0 := by decide +kernel
theorem hdX7_addTest : yX7_addTest.cls = RX7 ∧ yX7_addTest.cls ≠ "java/lang/invoke/MethodHandle" ∧ yX7_addTest.cls ≠ "java/lang/invoke/VarHandle" ∧ (parseMethodDescriptor yX7_addTest.desc).map (fun d => d.parameters.length) = some 2 := by decide +kernel
theorem hcX7_addTest : Cond.instanceMethod yX7_addTest ∈ UW ∧ Cond.selects RX7 yX7_addTest yX7_addTest ∈ UW ∧ Cond.initialized RX7 ∈ UW ∧ Cond.code yX7_addTest cX7_addTest 3 (some .int) ∈ UW := ⟨mw_4_236, mw_4_237, mw_1_1, mw_4_238⟩
theorem hdX7_alike : yX7_alike.cls = RX7 ∧ yX7_alike.cls ≠ "java/lang/invoke/MethodHandle" ∧ yX7_alike.cls ≠ "java/lang/invoke/VarHandle" ∧ (parseMethodDescriptor yX7_alike.desc).map (fun d => d.parameters.length) = some 1 := by decide +kernel
theorem hcX7_alike : Cond.instanceMethod yX7_alike ∈ UW ∧ Cond.selects RX7 yX7_alike yX7_alike ∈ UW ∧ Cond.initialized RX7 ∈ UW ∧ Cond.code yX7_alike cX7_alike 2 (some .int) ∈ UW := ⟨mw_4_220, mw_4_221, mw_1_1, mw_4_222⟩
theorem hdX7_append : yX7_append.cls = RX7 ∧ yX7_append.cls ≠ "java/lang/invoke/MethodHandle" ∧ yX7_append.cls ≠ "java/lang/invoke/VarHandle" ∧ (parseMethodDescriptor yX7_append.desc).map (fun d => d.parameters.length) = some 5 := by decide +kernel
theorem hcX7_append : Cond.instanceMethod yX7_append ∈ UW ∧ Cond.selects RX7 yX7_append yX7_append ∈ UW ∧ Cond.initialized RX7 ∈ UW ∧ Cond.code yX7_append cX7_append 6 (some .int) ∈ UW := ⟨mw_2_56, mw_2_57, mw_1_1, mw_2_58⟩
theorem hdX7_areInputs : yX7_areInputs.cls = RX7 ∧ yX7_areInputs.cls ≠ "java/lang/invoke/MethodHandle" ∧ yX7_areInputs.cls ≠ "java/lang/invoke/VarHandle" ∧ (parseMethodDescriptor yX7_areInputs.desc).map (fun d => d.parameters.length) = some 1 := by decide +kernel
theorem hcX7_areInputs : Cond.instanceMethod yX7_areInputs ∈ UW ∧ Cond.selects RX7 yX7_areInputs yX7_areInputs ∈ UW ∧ Cond.initialized RX7 ∈ UW ∧ Cond.code yX7_areInputs cX7_areInputs 2 (some .boolean) ∈ UW := ⟨mw_5_1, mp_3_0, mw_1_1, mw_5_2⟩
theorem hdX7_bestFullTest : yX7_bestFullTest.cls = RX7 ∧ yX7_bestFullTest.cls ≠ "java/lang/invoke/MethodHandle" ∧ yX7_bestFullTest.cls ≠ "java/lang/invoke/VarHandle" ∧ (parseMethodDescriptor yX7_bestFullTest.desc).map (fun d => d.parameters.length) = some 1 := by decide +kernel
theorem hcX7_bestFullTest : Cond.instanceMethod yX7_bestFullTest ∈ UW ∧ Cond.selects RX7 yX7_bestFullTest yX7_bestFullTest ∈ UW ∧ Cond.initialized RX7 ∈ UW ∧ Cond.code yX7_bestFullTest cX7_bestFullTest 8 (some .int) ∈ UW := ⟨mw_3_20, mp_1_12, mw_1_1, mw_3_21⟩
theorem hdX7_checkFault : yX7_checkFault.cls = RX7 ∧ yX7_checkFault.cls ≠ "java/lang/invoke/MethodHandle" ∧ yX7_checkFault.cls ≠ "java/lang/invoke/VarHandle" ∧ (parseMethodDescriptor yX7_checkFault.desc).map (fun d => d.parameters.length) = some 1 := by decide +kernel
theorem hcX7_checkFault : Cond.instanceMethod yX7_checkFault ∈ UW ∧ Cond.selects RX7 yX7_checkFault yX7_checkFault ∈ UW ∧ Cond.initialized RX7 ∈ UW ∧ Cond.code yX7_checkFault cX7_checkFault 2 none ∈ UW := ⟨mw_4_171, mp_2_15, mw_1_1, mw_4_172⟩
theorem hdX7_checkTest : yX7_checkTest.cls = RX7 ∧ yX7_checkTest.cls ≠ "java/lang/invoke/MethodHandle" ∧ yX7_checkTest.cls ≠ "java/lang/invoke/VarHandle" ∧ (parseMethodDescriptor yX7_checkTest.desc).map (fun d => d.parameters.length) = some 1 := by decide +kernel
theorem hcX7_checkTest : Cond.instanceMethod yX7_checkTest ∈ UW ∧ Cond.selects RX7 yX7_checkTest yX7_checkTest ∈ UW ∧ Cond.initialized RX7 ∈ UW ∧ Cond.code yX7_checkTest cX7_checkTest 2 none ∈ UW := ⟨mw_4_159, mp_2_14, mw_1_1, mw_4_160⟩
theorem hdX7_checkWire : yX7_checkWire.cls = RX7 ∧ yX7_checkWire.cls ≠ "java/lang/invoke/MethodHandle" ∧ yX7_checkWire.cls ≠ "java/lang/invoke/VarHandle" ∧ (parseMethodDescriptor yX7_checkWire.desc).map (fun d => d.parameters.length) = some 1 := by decide +kernel
theorem hcX7_checkWire : Cond.instanceMethod yX7_checkWire ∈ UW ∧ Cond.selects RX7 yX7_checkWire yX7_checkWire ∈ UW ∧ Cond.initialized RX7 ∈ UW ∧ Cond.code yX7_checkWire cX7_checkWire 2 none ∈ UW := ⟨mw_3_131, mp_2_0, mw_1_1, mw_3_132⟩
theorem hdX7_checksum : yX7_checksum.cls = RX7 ∧ yX7_checksum.cls ≠ "java/lang/invoke/MethodHandle" ∧ yX7_checksum.cls ≠ "java/lang/invoke/VarHandle" ∧ (parseMethodDescriptor yX7_checksum.desc).map (fun d => d.parameters.length) = some 0 := by decide +kernel
theorem hcX7_checksum : Cond.instanceMethod yX7_checksum ∈ UW ∧ Cond.selects RX7 yX7_checksum yX7_checksum ∈ UW ∧ Cond.initialized RX7 ∈ UW ∧ Cond.code yX7_checksum cX7_checksum 4 (some .long) ∈ UW := ⟨mw_3_39, mw_3_40, mw_1_1, mw_3_41⟩
theorem hdX7_checksumOfTests : yX7_checksumOfTests.cls = RX7 ∧ yX7_checksumOfTests.cls ≠ "java/lang/invoke/MethodHandle" ∧ yX7_checksumOfTests.cls ≠ "java/lang/invoke/VarHandle" ∧ (parseMethodDescriptor yX7_checksumOfTests.desc).map (fun d => d.parameters.length) = some 1 := by decide +kernel
theorem hcX7_checksumOfTests : Cond.instanceMethod yX7_checksumOfTests ∈ UW ∧ Cond.selects RX7 yX7_checksumOfTests yX7_checksumOfTests ∈ UW ∧ Cond.initialized RX7 ∈ UW ∧ Cond.code yX7_checksumOfTests cX7_checksumOfTests 7 (some .long) ∈ UW := ⟨mw_3_155, mp_2_1, mw_1_1, mw_3_156⟩
theorem hdX7_checksumOfWires : yX7_checksumOfWires.cls = RX7 ∧ yX7_checksumOfWires.cls ≠ "java/lang/invoke/MethodHandle" ∧ yX7_checksumOfWires.cls ≠ "java/lang/invoke/VarHandle" ∧ (parseMethodDescriptor yX7_checksumOfWires.desc).map (fun d => d.parameters.length) = some 1 := by decide +kernel
theorem hcX7_checksumOfWires : Cond.instanceMethod yX7_checksumOfWires ∈ UW ∧ Cond.selects RX7 yX7_checksumOfWires yX7_checksumOfWires ∈ UW ∧ Cond.initialized RX7 ∈ UW ∧ Cond.code yX7_checksumOfWires cX7_checksumOfWires 7 (some .long) ∈ UW := ⟨mw_3_123, mp_1_15, mw_1_1, mw_3_124⟩
theorem hdX7_classes : yX7_classes.cls = RX7 ∧ yX7_classes.cls ≠ "java/lang/invoke/MethodHandle" ∧ yX7_classes.cls ≠ "java/lang/invoke/VarHandle" ∧ (parseMethodDescriptor yX7_classes.desc).map (fun d => d.parameters.length) = some 0 := by decide +kernel
theorem hcX7_classes : Cond.instanceMethod yX7_classes ∈ UW ∧ Cond.selects RX7 yX7_classes yX7_classes ∈ UW ∧ Cond.initialized RX7 ∈ UW ∧ Cond.code yX7_classes cX7_classes 4 (some .int) ∈ UW := ⟨mw_2_141, mw_2_142, mw_1_1, mw_2_143⟩
theorem hdX7_complete : yX7_complete.cls = RX7 ∧ yX7_complete.cls ≠ "java/lang/invoke/MethodHandle" ∧ yX7_complete.cls ≠ "java/lang/invoke/VarHandle" ∧ (parseMethodDescriptor yX7_complete.desc).map (fun d => d.parameters.length) = some 0 := by decide +kernel
theorem hcX7_complete : Cond.instanceMethod yX7_complete ∈ UW ∧ Cond.selects RX7 yX7_complete yX7_complete ∈ UW ∧ Cond.initialized RX7 ∈ UW ∧ Cond.code yX7_complete cX7_complete 6 (some .int) ∈ UW := ⟨mw_3_11, mw_3_12, mw_1_1, mw_3_13⟩
theorem hdX7_coverage : yX7_coverage.cls = RX7 ∧ yX7_coverage.cls ≠ "java/lang/invoke/MethodHandle" ∧ yX7_coverage.cls ≠ "java/lang/invoke/VarHandle" ∧ (parseMethodDescriptor yX7_coverage.desc).map (fun d => d.parameters.length) = some 0 := by decide +kernel
theorem hcX7_coverage : Cond.instanceMethod yX7_coverage ∈ UW ∧ Cond.selects RX7 yX7_coverage yX7_coverage ∈ UW ∧ Cond.initialized RX7 ∈ UW ∧ Cond.code yX7_coverage cX7_coverage 3 (some .double) ∈ UW := ⟨mw_2_149, mw_2_150, mw_1_1, mw_2_151⟩
theorem hdX7_errorOffset : yX7_errorOffset.cls = RX7 ∧ yX7_errorOffset.cls ≠ "java/lang/invoke/MethodHandle" ∧ yX7_errorOffset.cls ≠ "java/lang/invoke/VarHandle" ∧ (parseMethodDescriptor yX7_errorOffset.desc).map (fun d => d.parameters.length) = some 0 := by decide +kernel
theorem hcX7_errorOffset : Cond.instanceMethod yX7_errorOffset ∈ UW ∧ Cond.selects RX7 yX7_errorOffset yX7_errorOffset ∈ UW ∧ Cond.initialized RX7 ∈ UW ∧ Cond.code yX7_errorOffset cX7_errorOffset 1 (some .int) ∈ UW := ⟨mw_2_64, mw_2_65, mw_1_1, mw_2_66⟩
theorem hdX7_faulty : yX7_faulty.cls = RX7 ∧ yX7_faulty.cls ≠ "java/lang/invoke/MethodHandle" ∧ yX7_faulty.cls ≠ "java/lang/invoke/VarHandle" ∧ (parseMethodDescriptor yX7_faulty.desc).map (fun d => d.parameters.length) = some 3 := by decide +kernel
theorem hcX7_faulty : Cond.instanceMethod yX7_faulty ∈ UW ∧ Cond.selects RX7 yX7_faulty yX7_faulty ∈ UW ∧ Cond.initialized RX7 ∈ UW ∧ Cond.code yX7_faulty cX7_faulty 4 (some .int) ∈ UW := ⟨mw_4_166, mw_4_167, mw_1_1, mw_4_168⟩
theorem hdX7_finds : yX7_finds.cls = RX7 ∧ yX7_finds.cls ≠ "java/lang/invoke/MethodHandle" ∧ yX7_finds.cls ≠ "java/lang/invoke/VarHandle" ∧ (parseMethodDescriptor yX7_finds.desc).map (fun d => d.parameters.length) = some 2 := by decide +kernel
theorem hcX7_finds : Cond.instanceMethod yX7_finds ∈ UW ∧ Cond.selects RX7 yX7_finds yX7_finds ∈ UW ∧ Cond.initialized RX7 ∈ UW ∧ Cond.code yX7_finds cX7_finds 3 (some .int) ∈ UW := ⟨mw_4_179, mw_4_180, mw_1_1, mw_4_181⟩
theorem hdX7_firstAlike : yX7_firstAlike.cls = RX7 ∧ yX7_firstAlike.cls ≠ "java/lang/invoke/MethodHandle" ∧ yX7_firstAlike.cls ≠ "java/lang/invoke/VarHandle" ∧ (parseMethodDescriptor yX7_firstAlike.desc).map (fun d => d.parameters.length) = some 1 := by decide +kernel
theorem hcX7_firstAlike : Cond.instanceMethod yX7_firstAlike ∈ UW ∧ Cond.selects RX7 yX7_firstAlike yX7_firstAlike ∈ UW ∧ Cond.initialized RX7 ∈ UW ∧ Cond.code yX7_firstAlike cX7_firstAlike 3 (some .int) ∈ UW := ⟨mw_2_146, mp_1_4, mw_1_1, mw_2_147⟩
theorem hdX7_fits : yX7_fits.cls = RX7 ∧ yX7_fits.cls ≠ "java/lang/invoke/MethodHandle" ∧ yX7_fits.cls ≠ "java/lang/invoke/VarHandle" ∧ (parseMethodDescriptor yX7_fits.desc).map (fun d => d.parameters.length) = some 1 := by decide +kernel
theorem hcX7_fits : Cond.instanceMethod yX7_fits ∈ UW ∧ Cond.selects RX7 yX7_fits yX7_fits ∈ UW ∧ Cond.initialized RX7 ∈ UW ∧ Cond.code yX7_fits cX7_fits 6 (some .boolean) ∈ UW := ⟨mw_2_190, mp_1_9, mw_1_1, mw_2_191⟩
theorem hdX7_forget : yX7_forget.cls = RX7 ∧ yX7_forget.cls ≠ "java/lang/invoke/MethodHandle" ∧ yX7_forget.cls ≠ "java/lang/invoke/VarHandle" ∧ (parseMethodDescriptor yX7_forget.desc).map (fun d => d.parameters.length) = some 0 := by decide +kernel
theorem hcX7_forget : Cond.instanceMethod yX7_forget ∈ UW ∧ Cond.selects RX7 yX7_forget yX7_forget ∈ UW ∧ Cond.initialized RX7 ∈ UW ∧ Cond.code yX7_forget cX7_forget 2 (some .int) ∈ UW := ⟨mw_2_212, mw_2_213, mw_1_1, mw_2_214⟩
theorem hdX7_forgetRows : yX7_forgetRows.cls = RX7 ∧ yX7_forgetRows.cls ≠ "java/lang/invoke/MethodHandle" ∧ yX7_forgetRows.cls ≠ "java/lang/invoke/VarHandle" ∧ (parseMethodDescriptor yX7_forgetRows.desc).map (fun d => d.parameters.length) = some 0 := by decide +kernel
theorem hcX7_forgetRows : Cond.instanceMethod yX7_forgetRows ∈ UW ∧ Cond.selects RX7 yX7_forgetRows yX7_forgetRows ∈ UW ∧ Cond.initialized RX7 ∈ UW ∧ Cond.code yX7_forgetRows cX7_forgetRows 1 none ∈ UW := ⟨mw_3_36, mp_1_13, mw_1_1, mw_3_37⟩
theorem hdX7_greatestPart : yX7_greatestPart.cls = RX7 ∧ yX7_greatestPart.cls ≠ "java/lang/invoke/MethodHandle" ∧ yX7_greatestPart.cls ≠ "java/lang/invoke/VarHandle" ∧ (parseMethodDescriptor yX7_greatestPart.desc).map (fun d => d.parameters.length) = some 2 := by decide +kernel
theorem hcX7_greatestPart : Cond.instanceMethod yX7_greatestPart ∈ UW ∧ Cond.selects RX7 yX7_greatestPart yX7_greatestPart ∈ UW ∧ Cond.initialized RX7 ∈ UW ∧ Cond.code yX7_greatestPart cX7_greatestPart 6 (some .int) ∈ UW := ⟨mw_2_199, mp_1_10, mw_1_1, mw_2_200⟩
theorem hdX7_hasLane : yX7_hasLane.cls ≠ "java/lang/invoke/MethodHandle" ∧ yX7_hasLane.cls ≠ "java/lang/invoke/VarHandle" ∧ (parseMethodDescriptor yX7_hasLane.desc).map (fun d => d.parameters.length) = some 2 := by decide +kernel
theorem hcX7_hasLane : Cond.static yX7_hasLane ∈ UW ∧ Cond.initialized yX7_hasLane.cls ∈ UW ∧ Cond.code yX7_hasLane cX7_hasLane 3 (some .boolean) ∈ UW := ⟨mw_2_206, mw_1_1, mw_2_207⟩
theorem hdX7_hidden : yX7_hidden.cls = RX7 ∧ yX7_hidden.cls ≠ "java/lang/invoke/MethodHandle" ∧ yX7_hidden.cls ≠ "java/lang/invoke/VarHandle" ∧ (parseMethodDescriptor yX7_hidden.desc).map (fun d => d.parameters.length) = some 0 := by decide +kernel
theorem hcX7_hidden : Cond.instanceMethod yX7_hidden ∈ UW ∧ Cond.selects RX7 yX7_hidden yX7_hidden ∈ UW ∧ Cond.initialized RX7 ∈ UW ∧ Cond.code yX7_hidden cX7_hidden 4 (some .int) ∈ UW := ⟨mw_2_68, mw_2_69, mw_1_1, mw_2_70⟩
theorem hdX7_leastSet : yX7_leastSet.cls = RX7 ∧ yX7_leastSet.cls ≠ "java/lang/invoke/MethodHandle" ∧ yX7_leastSet.cls ≠ "java/lang/invoke/VarHandle" ∧ (parseMethodDescriptor yX7_leastSet.desc).map (fun d => d.parameters.length) = some 0 := by decide +kernel
theorem hcX7_leastSet : Cond.instanceMethod yX7_leastSet ∈ UW ∧ Cond.selects RX7 yX7_leastSet yX7_leastSet ∈ UW ∧ Cond.initialized RX7 ∈ UW ∧ Cond.code yX7_leastSet cX7_leastSet 8 (some .int) ∈ UW := ⟨mw_2_173, mw_2_174, mw_1_1, mw_2_175⟩
theorem hdX7_listFitting : yX7_listFitting.cls = RX7 ∧ yX7_listFitting.cls ≠ "java/lang/invoke/MethodHandle" ∧ yX7_listFitting.cls ≠ "java/lang/invoke/VarHandle" ∧ (parseMethodDescriptor yX7_listFitting.desc).map (fun d => d.parameters.length) = some 0 := by decide +kernel
theorem hcX7_listFitting : Cond.instanceMethod yX7_listFitting ∈ UW ∧ Cond.selects RX7 yX7_listFitting yX7_listFitting ∈ UW ∧ Cond.initialized RX7 ∈ UW ∧ Cond.code yX7_listFitting cX7_listFitting 4 (some .int) ∈ UW := ⟨mw_2_186, mp_1_8, mw_1_1, mw_2_187⟩
theorem hdX7_listFound : yX7_listFound.cls = RX7 ∧ yX7_listFound.cls ≠ "java/lang/invoke/MethodHandle" ∧ yX7_listFound.cls ≠ "java/lang/invoke/VarHandle" ∧ (parseMethodDescriptor yX7_listFound.desc).map (fun d => d.parameters.length) = some 3 := by decide +kernel
theorem hcX7_listFound : Cond.instanceMethod yX7_listFound ∈ UW ∧ Cond.selects RX7 yX7_listFound yX7_listFound ∈ UW ∧ Cond.initialized RX7 ∈ UW ∧ Cond.code yX7_listFound cX7_listFound 15 (some .long) ∈ UW := ⟨mw_2_167, mp_1_7, mw_1_1, mw_2_168⟩
theorem hdX7_listFoundByFull : yX7_listFoundByFull.cls = RX7 ∧ yX7_listFoundByFull.cls ≠ "java/lang/invoke/MethodHandle" ∧ yX7_listFoundByFull.cls ≠ "java/lang/invoke/VarHandle" ∧ (parseMethodDescriptor yX7_listFoundByFull.desc).map (fun d => d.parameters.length) = some 0 := by decide +kernel
theorem hcX7_listFoundByFull : Cond.instanceMethod yX7_listFoundByFull ∈ UW ∧ Cond.selects RX7 yX7_listFoundByFull yX7_listFoundByFull ∈ UW ∧ Cond.initialized RX7 ∈ UW ∧ Cond.code yX7_listFoundByFull cX7_listFoundByFull 1 none ∈ UW := ⟨mw_3_16, mp_1_11, mw_1_1, mw_3_17⟩
theorem hdX7_listFoundByTests : yX7_listFoundByTests.cls = RX7 ∧ yX7_listFoundByTests.cls ≠ "java/lang/invoke/MethodHandle" ∧ yX7_listFoundByTests.cls ≠ "java/lang/invoke/VarHandle" ∧ (parseMethodDescriptor yX7_listFoundByTests.desc).map (fun d => d.parameters.length) = some 0 := by decide +kernel
theorem hcX7_listFoundByTests : Cond.instanceMethod yX7_listFoundByTests ∈ UW ∧ Cond.selects RX7 yX7_listFoundByTests yX7_listFoundByTests ∈ UW ∧ Cond.initialized RX7 ∈ UW ∧ Cond.code yX7_listFoundByTests cX7_listFoundByTests 1 (some .long) ∈ UW := ⟨mw_2_155, mp_1_5, mw_1_1, mw_2_156⟩
theorem hdX7_load : yX7_load.cls = RX7 ∧ yX7_load.cls ≠ "java/lang/invoke/MethodHandle" ∧ yX7_load.cls ≠ "java/lang/invoke/VarHandle" ∧ (parseMethodDescriptor yX7_load.desc).map (fun d => d.parameters.length) = some 1 := by decide +kernel
theorem hcX7_load : Cond.instanceMethod yX7_load ∈ UW ∧ Cond.selects RX7 yX7_load yX7_load ∈ UW ∧ Cond.initialized RX7 ∈ UW ∧ Cond.code yX7_load cX7_load 3 (some .int) ∈ UW := ⟨mw_3_172, mw_3_173, mw_1_1, mw_3_174⟩
theorem hdX7_nextTest : yX7_nextTest.cls = RX7 ∧ yX7_nextTest.cls ≠ "java/lang/invoke/MethodHandle" ∧ yX7_nextTest.cls ≠ "java/lang/invoke/VarHandle" ∧ (parseMethodDescriptor yX7_nextTest.desc).map (fun d => d.parameters.length) = some 0 := by decide +kernel
theorem hcX7_nextTest : Cond.instanceMethod yX7_nextTest ∈ UW ∧ Cond.selects RX7 yX7_nextTest yX7_nextTest ∈ UW ∧ Cond.initialized RX7 ∈ UW ∧ Cond.code yX7_nextTest cX7_nextTest 6 (some .int) ∈ UW := ⟨mw_2_194, mw_2_195, mw_1_1, mw_2_196⟩
theorem hdX7_operand : yX7_operand.cls = RX7 ∧ yX7_operand.cls ≠ "java/lang/invoke/MethodHandle" ∧ yX7_operand.cls ≠ "java/lang/invoke/VarHandle" ∧ (parseMethodDescriptor yX7_operand.desc).map (fun d => d.parameters.length) = some 2 := by decide +kernel
theorem hcX7_operand : Cond.instanceMethod yX7_operand ∈ UW ∧ Cond.selects RX7 yX7_operand yX7_operand ∈ UW ∧ Cond.initialized RX7 ∈ UW ∧ Cond.code yX7_operand cX7_operand 3 (some .int) ∈ UW := ⟨mw_4_131, mw_4_132, mw_1_1, mw_4_133⟩
theorem hdX7_refreshFullRows : yX7_refreshFullRows.cls = RX7 ∧ yX7_refreshFullRows.cls ≠ "java/lang/invoke/MethodHandle" ∧ yX7_refreshFullRows.cls ≠ "java/lang/invoke/VarHandle" ∧ (parseMethodDescriptor yX7_refreshFullRows.desc).map (fun d => d.parameters.length) = some 0 := by decide +kernel
theorem hcX7_refreshFullRows : Cond.instanceMethod yX7_refreshFullRows ∈ UW ∧ Cond.selects RX7 yX7_refreshFullRows yX7_refreshFullRows ∈ UW ∧ Cond.initialized RX7 ∈ UW ∧ Cond.code yX7_refreshFullRows cX7_refreshFullRows 3 none ∈ UW := ⟨mw_2_73, mp_1_0, mw_1_1, mw_2_74⟩
theorem hdX7_refreshTestRows : yX7_refreshTestRows.cls = RX7 ∧ yX7_refreshTestRows.cls ≠ "java/lang/invoke/MethodHandle" ∧ yX7_refreshTestRows.cls ≠ "java/lang/invoke/VarHandle" ∧ (parseMethodDescriptor yX7_refreshTestRows.desc).map (fun d => d.parameters.length) = some 0 := by decide +kernel
theorem hcX7_refreshTestRows : Cond.instanceMethod yX7_refreshTestRows ∈ UW ∧ Cond.selects RX7 yX7_refreshTestRows yX7_refreshTestRows ∈ UW ∧ Cond.initialized RX7 ∈ UW ∧ Cond.code yX7_refreshTestRows cX7_refreshTestRows 1 none ∈ UW := ⟨mw_2_159, mp_1_6, mw_1_1, mw_2_160⟩
theorem hdX7_removeTest : yX7_removeTest.cls = RX7 ∧ yX7_removeTest.cls ≠ "java/lang/invoke/MethodHandle" ∧ yX7_removeTest.cls ≠ "java/lang/invoke/VarHandle" ∧ (parseMethodDescriptor yX7_removeTest.desc).map (fun d => d.parameters.length) = some 1 := by decide +kernel
theorem hcX7_removeTest : Cond.instanceMethod yX7_removeTest ∈ UW ∧ Cond.selects RX7 yX7_removeTest yX7_removeTest ∈ UW ∧ Cond.initialized RX7 ∈ UW ∧ Cond.code yX7_removeTest cX7_removeTest 2 (some .int) ∈ UW := ⟨mw_5_24, mw_5_25, mw_1_1, mw_5_26⟩
theorem hdX7_see : yX7_see.cls = RX7 ∧ yX7_see.cls ≠ "java/lang/invoke/MethodHandle" ∧ yX7_see.cls ≠ "java/lang/invoke/VarHandle" ∧ (parseMethodDescriptor yX7_see.desc).map (fun d => d.parameters.length) = some 3 := by decide +kernel
theorem hcX7_see : Cond.instanceMethod yX7_see ∈ UW ∧ Cond.selects RX7 yX7_see yX7_see ∈ UW ∧ Cond.initialized RX7 ∈ UW ∧ Cond.code yX7_see cX7_see 4 (some .int) ∈ UW := ⟨mw_5_49, mw_5_50, mw_1_1, mw_5_51⟩
theorem hdX7_setKind : yX7_setKind.cls = RX7 ∧ yX7_setKind.cls ≠ "java/lang/invoke/MethodHandle" ∧ yX7_setKind.cls ≠ "java/lang/invoke/VarHandle" ∧ (parseMethodDescriptor yX7_setKind.desc).map (fun d => d.parameters.length) = some 2 := by decide +kernel
theorem hcX7_setKind : Cond.instanceMethod yX7_setKind ∈ UW ∧ Cond.selects RX7 yX7_setKind yX7_setKind ∈ UW ∧ Cond.initialized RX7 ∈ UW ∧ Cond.code yX7_setKind cX7_setKind 5 (some .int) ∈ UW := ⟨mw_5_38, mw_5_39, mw_1_1, mw_5_40⟩
theorem hdX7_smallestCover : yX7_smallestCover.cls ≠ "java/lang/invoke/MethodHandle" ∧ yX7_smallestCover.cls ≠ "java/lang/invoke/VarHandle" ∧ (parseMethodDescriptor yX7_smallestCover.desc).map (fun d => d.parameters.length) = some 5 := by decide +kernel
theorem hcX7_smallestCover : Cond.static yX7_smallestCover ∈ UW ∧ Cond.initialized yX7_smallestCover.cls ∈ UW ∧ Cond.code yX7_smallestCover cX7_smallestCover 8 (some .int) ∈ UW := ⟨mw_2_177, mw_1_1, mw_2_178⟩
theorem hdX7_state : yX7_state.cls = RX7 ∧ yX7_state.cls ≠ "java/lang/invoke/MethodHandle" ∧ yX7_state.cls ≠ "java/lang/invoke/VarHandle" ∧ (parseMethodDescriptor yX7_state.desc).map (fun d => d.parameters.length) = some 1 := by decide +kernel
theorem hcX7_state : Cond.instanceMethod yX7_state ∈ UW ∧ Cond.selects RX7 yX7_state yX7_state ∈ UW ∧ Cond.initialized RX7 ∈ UW ∧ Cond.code yX7_state cX7_state 2 (some .int) ∈ UW := ⟨mw_3_44, mw_3_45, mw_1_1, mw_3_46⟩
theorem hdX7_suspect : yX7_suspect.cls = RX7 ∧ yX7_suspect.cls ≠ "java/lang/invoke/MethodHandle" ∧ yX7_suspect.cls ≠ "java/lang/invoke/VarHandle" ∧ (parseMethodDescriptor yX7_suspect.desc).map (fun d => d.parameters.length) = some 1 := by decide +kernel
theorem hcX7_suspect : Cond.instanceMethod yX7_suspect ∈ UW ∧ Cond.selects RX7 yX7_suspect yX7_suspect ∈ UW ∧ Cond.initialized RX7 ∈ UW ∧ Cond.code yX7_suspect cX7_suspect 3 (some .int) ∈ UW := ⟨mw_4_227, mw_4_228, mw_1_1, mw_4_229⟩
theorem hdX7_suspects : yX7_suspects.cls = RX7 ∧ yX7_suspects.cls ≠ "java/lang/invoke/MethodHandle" ∧ yX7_suspects.cls ≠ "java/lang/invoke/VarHandle" ∧ (parseMethodDescriptor yX7_suspects.desc).map (fun d => d.parameters.length) = some 0 := by decide +kernel
theorem hcX7_suspects : Cond.instanceMethod yX7_suspects ∈ UW ∧ Cond.selects RX7 yX7_suspects yX7_suspects ∈ UW ∧ Cond.initialized RX7 ∈ UW ∧ Cond.code yX7_suspects cX7_suspects 1 (some .int) ∈ UW := ⟨mw_2_181, mw_2_182, mw_1_1, mw_2_183⟩
theorem hdX7_tellsApart : yX7_tellsApart.cls = RX7 ∧ yX7_tellsApart.cls ≠ "java/lang/invoke/MethodHandle" ∧ yX7_tellsApart.cls ≠ "java/lang/invoke/VarHandle" ∧ (parseMethodDescriptor yX7_tellsApart.desc).map (fun d => d.parameters.length) = some 3 := by decide +kernel
theorem hcX7_tellsApart : Cond.instanceMethod yX7_tellsApart ∈ UW ∧ Cond.selects RX7 yX7_tellsApart yX7_tellsApart ∈ UW ∧ Cond.initialized RX7 ∈ UW ∧ Cond.code yX7_tellsApart cX7_tellsApart 4 (some .boolean) ∈ UW := ⟨mw_4_192, mw_4_193, mw_1_1, mw_4_194⟩
theorem hdX7_testBetween : yX7_testBetween.cls = RX7 ∧ yX7_testBetween.cls ≠ "java/lang/invoke/MethodHandle" ∧ yX7_testBetween.cls ≠ "java/lang/invoke/VarHandle" ∧ (parseMethodDescriptor yX7_testBetween.desc).map (fun d => d.parameters.length) = some 2 := by decide +kernel
theorem hcX7_testBetween : Cond.instanceMethod yX7_testBetween ∈ UW ∧ Cond.selects RX7 yX7_testBetween yX7_testBetween ∈ UW ∧ Cond.initialized RX7 ∈ UW ∧ Cond.code yX7_testBetween cX7_testBetween 3 (some .int) ∈ UW := ⟨mw_4_213, mw_4_214, mw_1_1, mw_4_215⟩
theorem hdX7_testFor : yX7_testFor.cls = RX7 ∧ yX7_testFor.cls ≠ "java/lang/invoke/MethodHandle" ∧ yX7_testFor.cls ≠ "java/lang/invoke/VarHandle" ∧ (parseMethodDescriptor yX7_testFor.desc).map (fun d => d.parameters.length) = some 1 := by decide +kernel
theorem hcX7_testFor : Cond.instanceMethod yX7_testFor ∈ UW ∧ Cond.selects RX7 yX7_testFor yX7_testFor ∈ UW ∧ Cond.initialized RX7 ∈ UW ∧ Cond.code yX7_testFor cX7_testFor 2 (some .int) ∈ UW := ⟨mw_4_206, mw_4_207, mw_1_1, mw_4_208⟩
theorem hdX7_undo : yX7_undo.cls = RX7 ∧ yX7_undo.cls ≠ "java/lang/invoke/MethodHandle" ∧ yX7_undo.cls ≠ "java/lang/invoke/VarHandle" ∧ (parseMethodDescriptor yX7_undo.desc).map (fun d => d.parameters.length) = some 0 := by decide +kernel
theorem hcX7_undo : Cond.instanceMethod yX7_undo ∈ UW ∧ Cond.selects RX7 yX7_undo yX7_undo ∈ UW ∧ Cond.initialized RX7 ∈ UW ∧ Cond.code yX7_undo cX7_undo 1 (some .int) ∈ UW := ⟨mw_3_27, mw_3_28, mw_1_1, mw_3_29⟩
theorem hdX7_value : yX7_value.cls = RX7 ∧ yX7_value.cls ≠ "java/lang/invoke/MethodHandle" ∧ yX7_value.cls ≠ "java/lang/invoke/VarHandle" ∧ (parseMethodDescriptor yX7_value.desc).map (fun d => d.parameters.length) = some 2 := by decide +kernel
theorem hcX7_value : Cond.instanceMethod yX7_value ∈ UW ∧ Cond.selects RX7 yX7_value yX7_value ∈ UW ∧ Cond.initialized RX7 ∈ UW ∧ Cond.code yX7_value cX7_value 3 (some .int) ∈ UW := ⟨mw_4_154, mw_4_155, mw_1_1, mw_4_156⟩
theorem hdX7_wire : yX7_wire.cls = RX7 ∧ yX7_wire.cls ≠ "java/lang/invoke/MethodHandle" ∧ yX7_wire.cls ≠ "java/lang/invoke/VarHandle" ∧ (parseMethodDescriptor yX7_wire.desc).map (fun d => d.parameters.length) = some 2 := by decide +kernel
theorem hcX7_wire : Cond.instanceMethod yX7_wire ∈ UW ∧ Cond.selects RX7 yX7_wire yX7_wire ∈ UW ∧ Cond.initialized RX7 ∈ UW ∧ Cond.code yX7_wire cX7_wire 3 (some .int) ∈ UW := ⟨mw_3_126, mw_3_127, mw_1_1, mw_3_128⟩
theorem hdX7_worth : yX7_worth.cls = RX7 ∧ yX7_worth.cls ≠ "java/lang/invoke/MethodHandle" ∧ yX7_worth.cls ≠ "java/lang/invoke/VarHandle" ∧ (parseMethodDescriptor yX7_worth.desc).map (fun d => d.parameters.length) = some 1 := by decide +kernel
theorem hcX7_worth : Cond.instanceMethod yX7_worth ∈ UW ∧ Cond.selects RX7 yX7_worth yX7_worth ∈ UW ∧ Cond.initialized RX7 ∈ UW ∧ Cond.code yX7_worth cX7_worth 2 (some .int) ∈ UW := ⟨mw_4_199, mw_4_200, mw_1_1, mw_4_201⟩
theorem hdX0_init : yX0_init.cls ≠ "java/lang/invoke/MethodHandle" ∧ yX0_init.cls ≠ "java/lang/invoke/VarHandle" ∧ (parseMethodDescriptor yX0_init.desc).map (fun d => d.parameters.length) = some 0 := by decide +kernel
theorem hdX0_clear : yX0_clear.cls = RX0 ∧ yX0_clear.cls ≠ "java/lang/invoke/MethodHandle" ∧ yX0_clear.cls ≠ "java/lang/invoke/VarHandle" ∧ (parseMethodDescriptor yX0_clear.desc).map (fun d => d.parameters.length) = some 1 := by decide +kernel
theorem hcX0_clear : Cond.instanceMethod yX0_clear ∈ UW ∧ Cond.selects RX0 yX0_clear yX0_clear ∈ UW ∧ Cond.initialized RX0 ∈ UW ∧ Cond.code yX0_clear cX0_clear 3 none ∈ UW := ⟨mw_1_52, mw_1_53, mw_1_4, mw_1_54⟩
theorem hdX0_copyFrom : yX0_copyFrom.cls = RX0 ∧ yX0_copyFrom.cls ≠ "java/lang/invoke/MethodHandle" ∧ yX0_copyFrom.cls ≠ "java/lang/invoke/VarHandle" ∧ (parseMethodDescriptor yX0_copyFrom.desc).map (fun d => d.parameters.length) = some 1 := by decide +kernel
theorem hcX0_copyFrom : Cond.instanceMethod yX0_copyFrom ∈ UW ∧ Cond.selects RX0 yX0_copyFrom yX0_copyFrom ∈ UW ∧ Cond.initialized RX0 ∈ UW ∧ Cond.code yX0_copyFrom cX0_copyFrom 2 none ∈ UW := ⟨mw_2_224, mw_2_225, mw_1_4, mw_2_226⟩
theorem hdX0_endGate : yX0_endGate.cls = RX0 ∧ yX0_endGate.cls ≠ "java/lang/invoke/MethodHandle" ∧ yX0_endGate.cls ≠ "java/lang/invoke/VarHandle" ∧ (parseMethodDescriptor yX0_endGate.desc).map (fun d => d.parameters.length) = some 0 := by decide +kernel
theorem hcX0_endGate : Cond.instanceMethod yX0_endGate ∈ UW ∧ Cond.selects RX0 yX0_endGate yX0_endGate ∈ UW ∧ Cond.initialized RX0 ∈ UW ∧ Cond.code yX0_endGate cX0_endGate 4 none ∈ UW := ⟨mw_4_66, mw_4_67, mw_1_4, mw_4_68⟩
theorem hdX0_faultCount : yX0_faultCount.cls = RX0 ∧ yX0_faultCount.cls ≠ "java/lang/invoke/MethodHandle" ∧ yX0_faultCount.cls ≠ "java/lang/invoke/VarHandle" ∧ (parseMethodDescriptor yX0_faultCount.desc).map (fun d => d.parameters.length) = some 0 := by decide +kernel
theorem hcX0_faultCount : Cond.instanceMethod yX0_faultCount ∈ UW ∧ Cond.selects RX0 yX0_faultCount yX0_faultCount ∈ UW ∧ Cond.initialized RX0 ∈ UW ∧ Cond.code yX0_faultCount cX0_faultCount 1 (some .int) ∈ UW := ⟨mw_2_94, mw_2_95, mw_1_4, mw_2_96⟩
theorem hdX0_fullWords : yX0_fullWords.cls = RX0 ∧ yX0_fullWords.cls ≠ "java/lang/invoke/MethodHandle" ∧ yX0_fullWords.cls ≠ "java/lang/invoke/VarHandle" ∧ (parseMethodDescriptor yX0_fullWords.desc).map (fun d => d.parameters.length) = some 0 := by decide +kernel
theorem hcX0_fullWords : Cond.instanceMethod yX0_fullWords ∈ UW ∧ Cond.selects RX0 yX0_fullWords yX0_fullWords ∈ UW ∧ Cond.initialized RX0 ∈ UW ∧ Cond.code yX0_fullWords cX0_fullWords 1 (some .int) ∈ UW := ⟨mw_2_76, mw_2_77, mw_1_4, mw_2_78⟩
theorem hdX0_greatestLevel : yX0_greatestLevel.cls = RX0 ∧ yX0_greatestLevel.cls ≠ "java/lang/invoke/MethodHandle" ∧ yX0_greatestLevel.cls ≠ "java/lang/invoke/VarHandle" ∧ (parseMethodDescriptor yX0_greatestLevel.desc).map (fun d => d.parameters.length) = some 0 := by decide +kernel
theorem hcX0_greatestLevel : Cond.instanceMethod yX0_greatestLevel ∈ UW ∧ Cond.selects RX0 yX0_greatestLevel yX0_greatestLevel ∈ UW ∧ Cond.initialized RX0 ∈ UW ∧ Cond.code yX0_greatestLevel cX0_greatestLevel 3 (some .int) ∈ UW := ⟨mw_3_48, mw_3_49, mw_1_4, mw_3_50⟩
theorem hdX0_hasBit : yX0_hasBit.cls ≠ "java/lang/invoke/MethodHandle" ∧ yX0_hasBit.cls ≠ "java/lang/invoke/VarHandle" ∧ (parseMethodDescriptor yX0_hasBit.desc).map (fun d => d.parameters.length) = some 2 := by decide +kernel
theorem hcX0_hasBit : Cond.static yX0_hasBit ∈ UW ∧ Cond.initialized yX0_hasBit.cls ∈ UW ∧ Cond.code yX0_hasBit cX0_hasBit 2 (some .boolean) ∈ UW := ⟨mw_2_86, mw_1_4, mw_2_87⟩
theorem hdX0_isFullOfBridges : yX0_isFullOfBridges.cls = RX0 ∧ yX0_isFullOfBridges.cls ≠ "java/lang/invoke/MethodHandle" ∧ yX0_isFullOfBridges.cls ≠ "java/lang/invoke/VarHandle" ∧ (parseMethodDescriptor yX0_isFullOfBridges.desc).map (fun d => d.parameters.length) = some 0 := by decide +kernel
theorem hcX0_isFullOfBridges : Cond.instanceMethod yX0_isFullOfBridges ∈ UW ∧ Cond.selects RX0 yX0_isFullOfBridges yX0_isFullOfBridges ∈ UW ∧ Cond.initialized RX0 ∈ UW ∧ Cond.code yX0_isFullOfBridges cX0_isFullOfBridges 1 (some .boolean) ∈ UW := ⟨mw_4_89, mw_4_90, mw_1_4, mw_4_91⟩
theorem hdX0_isFullOfGates : yX0_isFullOfGates.cls = RX0 ∧ yX0_isFullOfGates.cls ≠ "java/lang/invoke/MethodHandle" ∧ yX0_isFullOfGates.cls ≠ "java/lang/invoke/VarHandle" ∧ (parseMethodDescriptor yX0_isFullOfGates.desc).map (fun d => d.parameters.length) = some 0 := by decide +kernel
theorem hcX0_isFullOfGates : Cond.instanceMethod yX0_isFullOfGates ∈ UW ∧ Cond.selects RX0 yX0_isFullOfGates yX0_isFullOfGates ∈ UW ∧ Cond.initialized RX0 ∈ UW ∧ Cond.code yX0_isFullOfGates cX0_isFullOfGates 1 (some .boolean) ∈ UW := ⟨mw_4_37, mw_4_38, mw_1_4, mw_4_39⟩
theorem hdX0_isFullOfOutputs : yX0_isFullOfOutputs.cls = RX0 ∧ yX0_isFullOfOutputs.cls ≠ "java/lang/invoke/MethodHandle" ∧ yX0_isFullOfOutputs.cls ≠ "java/lang/invoke/VarHandle" ∧ (parseMethodDescriptor yX0_isFullOfOutputs.desc).map (fun d => d.parameters.length) = some 0 := by decide +kernel
theorem hcX0_isFullOfOutputs : Cond.instanceMethod yX0_isFullOfOutputs ∈ UW ∧ Cond.selects RX0 yX0_isFullOfOutputs yX0_isFullOfOutputs ∈ UW ∧ Cond.initialized RX0 ∈ UW ∧ Cond.code yX0_isFullOfOutputs cX0_isFullOfOutputs 1 (some .boolean) ∈ UW := ⟨mw_4_76, mw_4_77, mw_1_4, mw_4_78⟩
theorem hdX0_outputOf : yX0_outputOf.cls = RX0 ∧ yX0_outputOf.cls ≠ "java/lang/invoke/MethodHandle" ∧ yX0_outputOf.cls ≠ "java/lang/invoke/VarHandle" ∧ (parseMethodDescriptor yX0_outputOf.desc).map (fun d => d.parameters.length) = some 1 := by decide +kernel
theorem hcX0_outputOf : Cond.instanceMethod yX0_outputOf ∈ UW ∧ Cond.selects RX0 yX0_outputOf yX0_outputOf ∈ UW ∧ Cond.initialized RX0 ∈ UW ∧ Cond.code yX0_outputOf cX0_outputOf 3 (some .int) ∈ UW := ⟨mw_3_150, mw_3_151, mw_1_4, mw_3_152⟩
theorem hdX0_putBridge : yX0_putBridge.cls = RX0 ∧ yX0_putBridge.cls ≠ "java/lang/invoke/MethodHandle" ∧ yX0_putBridge.cls ≠ "java/lang/invoke/VarHandle" ∧ (parseMethodDescriptor yX0_putBridge.desc).map (fun d => d.parameters.length) = some 3 := by decide +kernel
theorem hcX0_putBridge : Cond.instanceMethod yX0_putBridge ∈ UW ∧ Cond.selects RX0 yX0_putBridge yX0_putBridge ∈ UW ∧ Cond.initialized RX0 ∈ UW ∧ Cond.code yX0_putBridge cX0_putBridge 4 none ∈ UW := ⟨mw_4_102, mw_4_103, mw_1_4, mw_4_104⟩
theorem hdX0_putOperand : yX0_putOperand.cls = RX0 ∧ yX0_putOperand.cls ≠ "java/lang/invoke/MethodHandle" ∧ yX0_putOperand.cls ≠ "java/lang/invoke/VarHandle" ∧ (parseMethodDescriptor yX0_putOperand.desc).map (fun d => d.parameters.length) = some 1 := by decide +kernel
theorem hcX0_putOperand : Cond.instanceMethod yX0_putOperand ∈ UW ∧ Cond.selects RX0 yX0_putOperand yX0_putOperand ∈ UW ∧ Cond.initialized RX0 ∈ UW ∧ Cond.code yX0_putOperand cX0_putOperand 2 none ∈ UW := ⟨mw_4_60, mw_4_61, mw_1_4, mw_4_62⟩
theorem hdX0_putOutput : yX0_putOutput.cls = RX0 ∧ yX0_putOutput.cls ≠ "java/lang/invoke/MethodHandle" ∧ yX0_putOutput.cls ≠ "java/lang/invoke/VarHandle" ∧ (parseMethodDescriptor yX0_putOutput.desc).map (fun d => d.parameters.length) = some 1 := by decide +kernel
theorem hcX0_putOutput : Cond.instanceMethod yX0_putOutput ∈ UW ∧ Cond.selects RX0 yX0_putOutput yX0_putOutput ∈ UW ∧ Cond.initialized RX0 ∈ UW ∧ Cond.code yX0_putOutput cX0_putOutput 2 none ∈ UW := ⟨mw_4_80, mw_4_81, mw_1_4, mw_4_82⟩
theorem hdX0_startGate : yX0_startGate.cls = RX0 ∧ yX0_startGate.cls ≠ "java/lang/invoke/MethodHandle" ∧ yX0_startGate.cls ≠ "java/lang/invoke/VarHandle" ∧ (parseMethodDescriptor yX0_startGate.desc).map (fun d => d.parameters.length) = some 1 := by decide +kernel
theorem hcX0_startGate : Cond.instanceMethod yX0_startGate ∈ UW ∧ Cond.selects RX0 yX0_startGate yX0_startGate ∈ UW ∧ Cond.initialized RX0 ∈ UW ∧ Cond.code yX0_startGate cX0_startGate 2 none ∈ UW := ⟨mw_4_54, mw_4_55, mw_1_4, mw_4_56⟩
theorem hdX0_wouldLoop : yX0_wouldLoop.cls = RX0 ∧ yX0_wouldLoop.cls ≠ "java/lang/invoke/MethodHandle" ∧ yX0_wouldLoop.cls ≠ "java/lang/invoke/VarHandle" ∧ (parseMethodDescriptor yX0_wouldLoop.desc).map (fun d => d.parameters.length) = some 2 := by decide +kernel
theorem hcX0_wouldLoop : Cond.instanceMethod yX0_wouldLoop ∈ UW ∧ Cond.selects RX0 yX0_wouldLoop yX0_wouldLoop ∈ UW ∧ Cond.initialized RX0 ∈ UW ∧ Cond.code yX0_wouldLoop cX0_wouldLoop 3 (some .boolean) ∈ UW := ⟨mw_4_97, mw_4_98, mw_1_4, mw_4_99⟩
theorem hdX1_init : yX1_init.cls ≠ "java/lang/invoke/MethodHandle" ∧ yX1_init.cls ≠ "java/lang/invoke/VarHandle" ∧ (parseMethodDescriptor yX1_init.desc).map (fun d => d.parameters.length) = some 0 := by decide +kernel
theorem hdX1_pop : yX1_pop.cls = RX1 ∧ yX1_pop.cls ≠ "java/lang/invoke/MethodHandle" ∧ yX1_pop.cls ≠ "java/lang/invoke/VarHandle" ∧ (parseMethodDescriptor yX1_pop.desc).map (fun d => d.parameters.length) = some 1 := by decide +kernel
theorem hcX1_pop : Cond.instanceMethod yX1_pop ∈ UW ∧ Cond.selects RX1 yX1_pop yX1_pop ∈ UW ∧ Cond.initialized RX1 ∈ UW ∧ Cond.code yX1_pop cX1_pop 2 none ∈ UW := ⟨mw_3_31, mw_3_32, mw_1_6, mw_3_33⟩
theorem hdX1_push : yX1_push.cls = RX1 ∧ yX1_push.cls ≠ "java/lang/invoke/MethodHandle" ∧ yX1_push.cls ≠ "java/lang/invoke/VarHandle" ∧ (parseMethodDescriptor yX1_push.desc).map (fun d => d.parameters.length) = some 1 := by decide +kernel
theorem hcX1_push : Cond.instanceMethod yX1_push ∈ UW ∧ Cond.selects RX1 yX1_push yX1_push ∈ UW ∧ Cond.initialized RX1 ∈ UW ∧ Cond.code yX1_push cX1_push 2 none ∈ UW := ⟨mw_2_216, mw_2_217, mw_1_6, mw_2_218⟩
theorem hdX2_init : yX2_init.cls ≠ "java/lang/invoke/MethodHandle" ∧ yX2_init.cls ≠ "java/lang/invoke/VarHandle" ∧ (parseMethodDescriptor yX2_init.desc).map (fun d => d.parameters.length) = some 0 := by decide +kernel
theorem hdX2_lane : yX2_lane.cls = RX2 ∧ yX2_lane.cls ≠ "java/lang/invoke/MethodHandle" ∧ yX2_lane.cls ≠ "java/lang/invoke/VarHandle" ∧ (parseMethodDescriptor yX2_lane.desc).map (fun d => d.parameters.length) = some 2 := by decide +kernel
theorem hcX2_lane : Cond.instanceMethod yX2_lane ∈ UW ∧ Cond.selects RX2 yX2_lane yX2_lane ∈ UW ∧ Cond.initialized RX2 ∈ UW ∧ Cond.code yX2_lane cX2_lane 3 (some .int) ∈ UW := ⟨mw_3_158, mw_3_159, mw_1_8, mw_3_160⟩
theorem hdX2_runFault : yX2_runFault.cls = RX2 ∧ yX2_runFault.cls ≠ "java/lang/invoke/MethodHandle" ∧ yX2_runFault.cls ≠ "java/lang/invoke/VarHandle" ∧ (parseMethodDescriptor yX2_runFault.desc).map (fun d => d.parameters.length) = some 3 := by decide +kernel
theorem hcX2_runFault : Cond.instanceMethod yX2_runFault ∈ UW ∧ Cond.selects RX2 yX2_runFault yX2_runFault ∈ UW ∧ Cond.initialized RX2 ∈ UW ∧ Cond.code yX2_runFault cX2_runFault 6 none ∈ UW := ⟨mw_2_114, mw_2_115, mw_1_8, mw_2_116⟩
theorem hdX2_runGate : yX2_runGate.cls = RX2 ∧ yX2_runGate.cls ≠ "java/lang/invoke/MethodHandle" ∧ yX2_runGate.cls ≠ "java/lang/invoke/VarHandle" ∧ (parseMethodDescriptor yX2_runGate.desc).map (fun d => d.parameters.length) = some 2 := by decide +kernel
theorem hcX2_runGate : Cond.instanceMethod yX2_runGate ∈ UW ∧ Cond.selects RX2 yX2_runGate yX2_runGate ∈ UW ∧ Cond.initialized RX2 ∈ UW ∧ Cond.code yX2_runGate cX2_runGate 16 none ∈ UW := ⟨mw_2_103, mp_1_1, mw_1_8, mw_2_104⟩
theorem hdX2_runGates : yX2_runGates.cls = RX2 ∧ yX2_runGates.cls ≠ "java/lang/invoke/MethodHandle" ∧ yX2_runGates.cls ≠ "java/lang/invoke/VarHandle" ∧ (parseMethodDescriptor yX2_runGates.desc).map (fun d => d.parameters.length) = some 1 := by decide +kernel
theorem hcX2_runGates : Cond.instanceMethod yX2_runGates ∈ UW ∧ Cond.selects RX2 yX2_runGates yX2_runGates ∈ UW ∧ Cond.initialized RX2 ∈ UW ∧ Cond.code yX2_runGates cX2_runGates 3 none ∈ UW := ⟨mw_2_98, mw_2_99, mw_1_8, mw_2_100⟩
theorem hdX2_setFullInputs : yX2_setFullInputs.cls = RX2 ∧ yX2_setFullInputs.cls ≠ "java/lang/invoke/MethodHandle" ∧ yX2_setFullInputs.cls ≠ "java/lang/invoke/VarHandle" ∧ (parseMethodDescriptor yX2_setFullInputs.desc).map (fun d => d.parameters.length) = some 2 := by decide +kernel
theorem hcX2_setFullInputs : Cond.instanceMethod yX2_setFullInputs ∈ UW ∧ Cond.selects RX2 yX2_setFullInputs yX2_setFullInputs ∈ UW ∧ Cond.initialized RX2 ∈ UW ∧ Cond.code yX2_setFullInputs cX2_setFullInputs 4 none ∈ UW := ⟨mw_2_80, mw_2_81, mw_1_8, mw_2_82⟩
theorem hdX2_setSites : yX2_setSites.cls = RX2 ∧ yX2_setSites.cls ≠ "java/lang/invoke/MethodHandle" ∧ yX2_setSites.cls ≠ "java/lang/invoke/VarHandle" ∧ (parseMethodDescriptor yX2_setSites.desc).map (fun d => d.parameters.length) = some 3 := by decide +kernel
theorem hcX2_setSites : Cond.instanceMethod yX2_setSites ∈ UW ∧ Cond.selects RX2 yX2_setSites yX2_setSites ∈ UW ∧ Cond.initialized RX2 ∈ UW ∧ Cond.code yX2_setSites cX2_setSites 7 (some .int) ∈ UW := ⟨mw_2_119, mp_1_3, mw_1_8, mw_2_120⟩
theorem hdX2_setTestInputs : yX2_setTestInputs.cls = RX2 ∧ yX2_setTestInputs.cls ≠ "java/lang/invoke/MethodHandle" ∧ yX2_setTestInputs.cls ≠ "java/lang/invoke/VarHandle" ∧ (parseMethodDescriptor yX2_setTestInputs.desc).map (fun d => d.parameters.length) = some 2 := by decide +kernel
theorem hcX2_setTestInputs : Cond.instanceMethod yX2_setTestInputs ∈ UW ∧ Cond.selects RX2 yX2_setTestInputs yX2_setTestInputs ∈ UW ∧ Cond.initialized RX2 ∈ UW ∧ Cond.code yX2_setTestInputs cX2_setTestInputs 5 none ∈ UW := ⟨mw_2_162, mw_2_163, mw_1_8, mw_2_164⟩
theorem hdX3_init : yX3_init.cls ≠ "java/lang/invoke/MethodHandle" ∧ yX3_init.cls ≠ "java/lang/invoke/VarHandle" ∧ (parseMethodDescriptor yX3_init.desc).map (fun d => d.parameters.length) = some 1 := by decide +kernel
theorem hdX3_apart : yX3_apart.cls = RX3 ∧ yX3_apart.cls ≠ "java/lang/invoke/MethodHandle" ∧ yX3_apart.cls ≠ "java/lang/invoke/VarHandle" ∧ (parseMethodDescriptor yX3_apart.desc).map (fun d => d.parameters.length) = some 4 := by decide +kernel
theorem hcX3_apart : Cond.instanceMethod yX3_apart ∈ UW ∧ Cond.selects RX3 yX3_apart yX3_apart ∈ UW ∧ Cond.initialized RX3 ∈ UW ∧ Cond.code yX3_apart cX3_apart 10 (some .long) ∈ UW := ⟨mw_2_131, mw_2_132, mw_1_7, mw_2_133⟩
theorem hdX3_blurred : yX3_blurred.cls = RX3 ∧ yX3_blurred.cls ≠ "java/lang/invoke/MethodHandle" ∧ yX3_blurred.cls ≠ "java/lang/invoke/VarHandle" ∧ (parseMethodDescriptor yX3_blurred.desc).map (fun d => d.parameters.length) = some 3 := by decide +kernel
theorem hcX3_blurred : Cond.instanceMethod yX3_blurred ∈ UW ∧ Cond.selects RX3 yX3_blurred yX3_blurred ∈ UW ∧ Cond.initialized RX3 ∈ UW ∧ Cond.code yX3_blurred cX3_blurred 9 (some .long) ∈ UW := ⟨mw_4_184, mw_4_185, mw_1_7, mw_4_186⟩
theorem hdX3_firstApart : yX3_firstApart.cls = RX3 ∧ yX3_firstApart.cls ≠ "java/lang/invoke/MethodHandle" ∧ yX3_firstApart.cls ≠ "java/lang/invoke/VarHandle" ∧ (parseMethodDescriptor yX3_firstApart.desc).map (fun d => d.parameters.length) = some 3 := by decide +kernel
theorem hcX3_firstApart : Cond.instanceMethod yX3_firstApart ∈ UW ∧ Cond.selects RX3 yX3_firstApart yX3_firstApart ∈ UW ∧ Cond.initialized RX3 ∈ UW ∧ Cond.code yX3_firstApart cX3_firstApart 8 (some .int) ∈ UW := ⟨mw_2_123, mw_2_124, mw_1_7, mw_2_125⟩
theorem hdX3_partOf : yX3_partOf.cls = RX3 ∧ yX3_partOf.cls ≠ "java/lang/invoke/MethodHandle" ∧ yX3_partOf.cls ≠ "java/lang/invoke/VarHandle" ∧ (parseMethodDescriptor yX3_partOf.desc).map (fun d => d.parameters.length) = some 3 := by decide +kernel
theorem hcX3_partOf : Cond.instanceMethod yX3_partOf ∈ UW ∧ Cond.selects RX3 yX3_partOf yX3_partOf ∈ UW ∧ Cond.initialized RX3 ∈ UW ∧ Cond.code yX3_partOf cX3_partOf 8 (some .int) ∈ UW := ⟨mw_2_202, mw_2_203, mw_1_7, mw_2_204⟩
theorem hdX3_rowOf : yX3_rowOf.cls = RX3 ∧ yX3_rowOf.cls ≠ "java/lang/invoke/MethodHandle" ∧ yX3_rowOf.cls ≠ "java/lang/invoke/VarHandle" ∧ (parseMethodDescriptor yX3_rowOf.desc).map (fun d => d.parameters.length) = some 3 := by decide +kernel
theorem hcX3_rowOf : Cond.instanceMethod yX3_rowOf ∈ UW ∧ Cond.selects RX3 yX3_rowOf yX3_rowOf ∈ UW ∧ Cond.initialized RX3 ∈ UW ∧ Cond.code yX3_rowOf cX3_rowOf 4 (some .int) ∈ UW := ⟨mw_2_110, mw_2_111, mw_1_7, mw_2_112⟩
theorem hdX3_store : yX3_store.cls = RX3 ∧ yX3_store.cls ≠ "java/lang/invoke/MethodHandle" ∧ yX3_store.cls ≠ "java/lang/invoke/VarHandle" ∧ (parseMethodDescriptor yX3_store.desc).map (fun d => d.parameters.length) = some 4 := by decide +kernel
theorem hcX3_store : Cond.instanceMethod yX3_store ∈ UW ∧ Cond.selects RX3 yX3_store yX3_store ∈ UW ∧ Cond.initialized RX3 ∈ UW ∧ Cond.code yX3_store cX3_store 7 none ∈ UW := ⟨mw_2_107, mp_1_2, mw_1_7, mw_2_108⟩
theorem hdX3_work : yX3_work.cls = RX3 ∧ yX3_work.cls ≠ "java/lang/invoke/MethodHandle" ∧ yX3_work.cls ≠ "java/lang/invoke/VarHandle" ∧ (parseMethodDescriptor yX3_work.desc).map (fun d => d.parameters.length) = some 2 := by decide +kernel
theorem hcX3_work : Cond.instanceMethod yX3_work ∈ UW ∧ Cond.selects RX3 yX3_work yX3_work ∈ UW ∧ Cond.initialized RX3 ∈ UW ∧ Cond.code yX3_work cX3_work 5 none ∈ UW := ⟨mw_2_90, mw_2_91, mw_1_7, mw_2_92⟩
theorem hdX4_init : yX4_init.cls ≠ "java/lang/invoke/MethodHandle" ∧ yX4_init.cls ≠ "java/lang/invoke/VarHandle" ∧ (parseMethodDescriptor yX4_init.desc).map (fun d => d.parameters.length) = some 0 := by decide +kernel
theorem hdX4_clear : yX4_clear.cls = RX4 ∧ yX4_clear.cls ≠ "java/lang/invoke/MethodHandle" ∧ yX4_clear.cls ≠ "java/lang/invoke/VarHandle" ∧ (parseMethodDescriptor yX4_clear.desc).map (fun d => d.parameters.length) = some 1 := by decide +kernel
theorem hcX4_clear : Cond.instanceMethod yX4_clear ∈ UW ∧ Cond.selects RX4 yX4_clear yX4_clear ∈ UW ∧ Cond.initialized RX4 ∈ UW ∧ Cond.code yX4_clear cX4_clear 2 none ∈ UW := ⟨mw_3_182, mw_3_183, mw_1_3, mw_3_184⟩
theorem hdX4_copyFrom : yX4_copyFrom.cls = RX4 ∧ yX4_copyFrom.cls ≠ "java/lang/invoke/MethodHandle" ∧ yX4_copyFrom.cls ≠ "java/lang/invoke/VarHandle" ∧ (parseMethodDescriptor yX4_copyFrom.desc).map (fun d => d.parameters.length) = some 1 := by decide +kernel
theorem hcX4_copyFrom : Cond.instanceMethod yX4_copyFrom ∈ UW ∧ Cond.selects RX4 yX4_copyFrom yX4_copyFrom ∈ UW ∧ Cond.initialized RX4 ∈ UW ∧ Cond.code yX4_copyFrom cX4_copyFrom 2 none ∈ UW := ⟨mw_2_220, mw_2_221, mw_1_3, mw_2_222⟩
theorem hdX5_init : yX5_init.cls ≠ "java/lang/invoke/MethodHandle" ∧ yX5_init.cls ≠ "java/lang/invoke/VarHandle" ∧ (parseMethodDescriptor yX5_init.desc).map (fun d => d.parameters.length) = some 0 := by decide +kernel
theorem hdX5_advance : yX5_advance.cls = RX5 ∧ yX5_advance.cls ≠ "java/lang/invoke/MethodHandle" ∧ yX5_advance.cls ≠ "java/lang/invoke/VarHandle" ∧ (parseMethodDescriptor yX5_advance.desc).map (fun d => d.parameters.length) = some 0 := by decide +kernel
theorem hcX5_advance : Cond.instanceMethod yX5_advance ∈ UW ∧ Cond.selects RX5 yX5_advance yX5_advance ∈ UW ∧ Cond.initialized RX5 ∈ UW ∧ Cond.code yX5_advance cX5_advance 1 none ∈ UW := ⟨mw_3_193, mp_2_2, mw_1_2, mw_3_194⟩
theorem hdX5_fail : yX5_fail.cls = RX5 ∧ yX5_fail.cls ≠ "java/lang/invoke/MethodHandle" ∧ yX5_fail.cls ≠ "java/lang/invoke/VarHandle" ∧ (parseMethodDescriptor yX5_fail.desc).map (fun d => d.parameters.length) = some 1 := by decide +kernel
theorem hcX5_fail : Cond.instanceMethod yX5_fail ∈ UW ∧ Cond.selects RX5 yX5_fail yX5_fail ∈ UW ∧ Cond.initialized RX5 ∈ UW ∧ Cond.code yX5_fail cX5_fail 2 (some .boolean) ∈ UW := ⟨mw_4_21, mp_2_5, mw_1_2, mw_4_22⟩
theorem hdX5_isDigit : yX5_isDigit.cls ≠ "java/lang/invoke/MethodHandle" ∧ yX5_isDigit.cls ≠ "java/lang/invoke/VarHandle" ∧ (parseMethodDescriptor yX5_isDigit.desc).map (fun d => d.parameters.length) = some 1 := by decide +kernel
theorem hcX5_isDigit : Cond.static yX5_isDigit ∈ UW ∧ Cond.initialized yX5_isDigit.cls ∈ UW ∧ Cond.code yX5_isDigit cX5_isDigit 1 (some .boolean) ∈ UW := ⟨mw_3_196, mw_1_2, mw_3_197⟩
theorem hdX5_isKnownWire : yX5_isKnownWire.cls = RX5 ∧ yX5_isKnownWire.cls ≠ "java/lang/invoke/MethodHandle" ∧ yX5_isKnownWire.cls ≠ "java/lang/invoke/VarHandle" ∧ (parseMethodDescriptor yX5_isKnownWire.desc).map (fun d => d.parameters.length) = some 0 := by decide +kernel
theorem hcX5_isKnownWire : Cond.instanceMethod yX5_isKnownWire ∈ UW ∧ Cond.selects RX5 yX5_isKnownWire yX5_isKnownWire ∈ UW ∧ Cond.initialized RX5 ∈ UW ∧ Cond.code yX5_isKnownWire cX5_isKnownWire 1 (some .boolean) ∈ UW := ⟨mw_4_94, mp_2_12, mw_1_2, mw_4_95⟩
theorem hdX5_isLetter : yX5_isLetter.cls ≠ "java/lang/invoke/MethodHandle" ∧ yX5_isLetter.cls ≠ "java/lang/invoke/VarHandle" ∧ (parseMethodDescriptor yX5_isLetter.desc).map (fun d => d.parameters.length) = some 1 := by decide +kernel
theorem hcX5_isLetter : Cond.static yX5_isLetter ∈ UW ∧ Cond.initialized yX5_isLetter.cls ∈ UW ∧ Cond.code yX5_isLetter cX5_isLetter 1 (some .boolean) ∈ UW := ⟨mw_3_200, mw_1_2, mw_3_201⟩
theorem hdX5_isWord : yX5_isWord.cls = RX5 ∧ yX5_isWord.cls ≠ "java/lang/invoke/MethodHandle" ∧ yX5_isWord.cls ≠ "java/lang/invoke/VarHandle" ∧ (parseMethodDescriptor yX5_isWord.desc).map (fun d => d.parameters.length) = some 1 := by decide +kernel
theorem hcX5_isWord : Cond.instanceMethod yX5_isWord ∈ UW ∧ Cond.selects RX5 yX5_isWord yX5_isWord ∈ UW ∧ Cond.initialized RX5 ∈ UW ∧ Cond.code yX5_isWord cX5_isWord 3 (some .boolean) ∈ UW := ⟨mw_3_209, mp_2_4, mw_1_2, mw_3_210⟩
theorem hdX5_kindOfWord : yX5_kindOfWord.cls = RX5 ∧ yX5_kindOfWord.cls ≠ "java/lang/invoke/MethodHandle" ∧ yX5_kindOfWord.cls ≠ "java/lang/invoke/VarHandle" ∧ (parseMethodDescriptor yX5_kindOfWord.desc).map (fun d => d.parameters.length) = some 0 := by decide +kernel
theorem hcX5_kindOfWord : Cond.instanceMethod yX5_kindOfWord ∈ UW ∧ Cond.selects RX5 yX5_kindOfWord yX5_kindOfWord ∈ UW ∧ Cond.initialized RX5 ∈ UW ∧ Cond.code yX5_kindOfWord cX5_kindOfWord 1 (some .int) ∈ UW := ⟨mw_4_42, mp_2_9, mw_1_2, mw_4_43⟩
theorem hdX5_putBytes : yX5_putBytes.cls = RX5 ∧ yX5_putBytes.cls ≠ "java/lang/invoke/MethodHandle" ∧ yX5_putBytes.cls ≠ "java/lang/invoke/VarHandle" ∧ (parseMethodDescriptor yX5_putBytes.desc).map (fun d => d.parameters.length) = some 1 := by decide +kernel
theorem hcX5_putBytes : Cond.instanceMethod yX5_putBytes ∈ UW ∧ Cond.selects RX5 yX5_putBytes yX5_putBytes ∈ UW ∧ Cond.initialized RX5 ∈ UW ∧ Cond.code yX5_putBytes cX5_putBytes 3 none ∈ UW := ⟨mw_2_60, mw_2_61, mw_1_2, mw_2_62⟩
theorem hdX5_read : yX5_read.cls = RX5 ∧ yX5_read.cls ≠ "java/lang/invoke/MethodHandle" ∧ yX5_read.cls ≠ "java/lang/invoke/VarHandle" ∧ (parseMethodDescriptor yX5_read.desc).map (fun d => d.parameters.length) = some 1 := by decide +kernel
theorem hcX5_read : Cond.instanceMethod yX5_read ∈ UW ∧ Cond.selects RX5 yX5_read yX5_read ∈ UW ∧ Cond.initialized RX5 ∈ UW ∧ Cond.code yX5_read cX5_read 4 (some .int) ∈ UW := ⟨mw_3_177, mw_3_178, mw_1_2, mw_3_179⟩
theorem hdX5_readBridge : yX5_readBridge.cls = RX5 ∧ yX5_readBridge.cls ≠ "java/lang/invoke/MethodHandle" ∧ yX5_readBridge.cls ≠ "java/lang/invoke/VarHandle" ∧ (parseMethodDescriptor yX5_readBridge.desc).map (fun d => d.parameters.length) = some 0 := by decide +kernel
theorem hcX5_readBridge : Cond.instanceMethod yX5_readBridge ∈ UW ∧ Cond.selects RX5 yX5_readBridge yX5_readBridge ∈ UW ∧ Cond.initialized RX5 ∈ UW ∧ Cond.code yX5_readBridge cX5_readBridge 4 (some .boolean) ∈ UW := ⟨mw_4_86, mp_2_11, mw_1_2, mw_4_87⟩
theorem hdX5_readCircuit : yX5_readCircuit.cls = RX5 ∧ yX5_readCircuit.cls ≠ "java/lang/invoke/MethodHandle" ∧ yX5_readCircuit.cls ≠ "java/lang/invoke/VarHandle" ∧ (parseMethodDescriptor yX5_readCircuit.desc).map (fun d => d.parameters.length) = some 0 := by decide +kernel
theorem hcX5_readCircuit : Cond.instanceMethod yX5_readCircuit ∈ UW ∧ Cond.selects RX5 yX5_readCircuit yX5_readCircuit ∈ UW ∧ Cond.initialized RX5 ∈ UW ∧ Cond.code yX5_readCircuit cX5_readCircuit 1 (some .boolean) ∈ UW := ⟨mw_3_204, mp_2_3, mw_1_2, mw_3_205⟩
theorem hdX5_readGate : yX5_readGate.cls = RX5 ∧ yX5_readGate.cls ≠ "java/lang/invoke/MethodHandle" ∧ yX5_readGate.cls ≠ "java/lang/invoke/VarHandle" ∧ (parseMethodDescriptor yX5_readGate.desc).map (fun d => d.parameters.length) = some 0 := by decide +kernel
theorem hcX5_readGate : Cond.instanceMethod yX5_readGate ∈ UW ∧ Cond.selects RX5 yX5_readGate yX5_readGate ∈ UW ∧ Cond.initialized RX5 ∈ UW ∧ Cond.code yX5_readGate cX5_readGate 5 (some .boolean) ∈ UW := ⟨mw_4_34, mp_2_8, mw_1_2, mw_4_35⟩
theorem hdX5_readOutputs : yX5_readOutputs.cls = RX5 ∧ yX5_readOutputs.cls ≠ "java/lang/invoke/MethodHandle" ∧ yX5_readOutputs.cls ≠ "java/lang/invoke/VarHandle" ∧ (parseMethodDescriptor yX5_readOutputs.desc).map (fun d => d.parameters.length) = some 0 := by decide +kernel
theorem hcX5_readOutputs : Cond.instanceMethod yX5_readOutputs ∈ UW ∧ Cond.selects RX5 yX5_readOutputs yX5_readOutputs ∈ UW ∧ Cond.initialized RX5 ∈ UW ∧ Cond.code yX5_readOutputs cX5_readOutputs 3 (some .boolean) ∈ UW := ⟨mw_4_72, mp_2_10, mw_1_2, mw_4_73⟩
theorem hdX5_readSemicolon : yX5_readSemicolon.cls = RX5 ∧ yX5_readSemicolon.cls ≠ "java/lang/invoke/MethodHandle" ∧ yX5_readSemicolon.cls ≠ "java/lang/invoke/VarHandle" ∧ (parseMethodDescriptor yX5_readSemicolon.desc).map (fun d => d.parameters.length) = some 0 := by decide +kernel
theorem hcX5_readSemicolon : Cond.instanceMethod yX5_readSemicolon ∈ UW ∧ Cond.selects RX5 yX5_readSemicolon yX5_readSemicolon ∈ UW ∧ Cond.initialized RX5 ∈ UW ∧ Cond.code yX5_readSemicolon cX5_readSemicolon 1 (some .boolean) ∈ UW := ⟨mw_4_25, mp_2_6, mw_1_2, mw_4_26⟩
theorem hdX5_readStatement : yX5_readStatement.cls = RX5 ∧ yX5_readStatement.cls ≠ "java/lang/invoke/MethodHandle" ∧ yX5_readStatement.cls ≠ "java/lang/invoke/VarHandle" ∧ (parseMethodDescriptor yX5_readStatement.desc).map (fun d => d.parameters.length) = some 0 := by decide +kernel
theorem hcX5_readStatement : Cond.instanceMethod yX5_readStatement ∈ UW ∧ Cond.selects RX5 yX5_readStatement yX5_readStatement ∈ UW ∧ Cond.initialized RX5 ∈ UW ∧ Cond.code yX5_readStatement cX5_readStatement 1 (some .boolean) ∈ UW := ⟨mw_4_29, mp_2_7, mw_1_2, mw_4_30⟩
theorem hdX5_readTest : yX5_readTest.cls = RX5 ∧ yX5_readTest.cls ≠ "java/lang/invoke/MethodHandle" ∧ yX5_readTest.cls ≠ "java/lang/invoke/VarHandle" ∧ (parseMethodDescriptor yX5_readTest.desc).map (fun d => d.parameters.length) = some 0 := by decide +kernel
theorem hcX5_readTest : Cond.instanceMethod yX5_readTest ∈ UW ∧ Cond.selects RX5 yX5_readTest yX5_readTest ∈ UW ∧ Cond.initialized RX5 ∈ UW ∧ Cond.code yX5_readTest cX5_readTest 4 (some .boolean) ∈ UW := ⟨mw_4_108, mp_2_13, mw_1_2, mw_4_109⟩
theorem hdX6_init : yX6_init.cls ≠ "java/lang/invoke/MethodHandle" ∧ yX6_init.cls ≠ "java/lang/invoke/VarHandle" ∧ (parseMethodDescriptor yX6_init.desc).map (fun d => d.parameters.length) = some 0 := by decide +kernel
theorem hdX6_clear : yX6_clear.cls = RX6 ∧ yX6_clear.cls ≠ "java/lang/invoke/MethodHandle" ∧ yX6_clear.cls ≠ "java/lang/invoke/VarHandle" ∧ (parseMethodDescriptor yX6_clear.desc).map (fun d => d.parameters.length) = some 0 := by decide +kernel
theorem hcX6_clear : Cond.instanceMethod yX6_clear ∈ UW ∧ Cond.selects RX6 yX6_clear yX6_clear ∈ UW ∧ Cond.initialized RX6 ∈ UW ∧ Cond.code yX6_clear cX6_clear 1 none ∈ UW := ⟨mw_3_187, mw_3_188, mw_1_5, mw_3_189⟩
theorem hdX6_clearSeen : yX6_clearSeen.cls = RX6 ∧ yX6_clearSeen.cls ≠ "java/lang/invoke/MethodHandle" ∧ yX6_clearSeen.cls ≠ "java/lang/invoke/VarHandle" ∧ (parseMethodDescriptor yX6_clearSeen.desc).map (fun d => d.parameters.length) = some 0 := by decide +kernel
theorem hcX6_clearSeen : Cond.instanceMethod yX6_clearSeen ∈ UW ∧ Cond.selects RX6 yX6_clearSeen yX6_clearSeen ∈ UW ∧ Cond.initialized RX6 ∈ UW ∧ Cond.code yX6_clearSeen cX6_clearSeen 2 none ∈ UW := ⟨mw_3_7, mw_3_8, mw_1_5, mw_3_9⟩
theorem hdX6_copyFrom : yX6_copyFrom.cls = RX6 ∧ yX6_copyFrom.cls ≠ "java/lang/invoke/MethodHandle" ∧ yX6_copyFrom.cls ≠ "java/lang/invoke/VarHandle" ∧ (parseMethodDescriptor yX6_copyFrom.desc).map (fun d => d.parameters.length) = some 1 := by decide +kernel
theorem hcX6_copyFrom : Cond.instanceMethod yX6_copyFrom ∈ UW ∧ Cond.selects RX6 yX6_copyFrom yX6_copyFrom ∈ UW ∧ Cond.initialized RX6 ∈ UW ∧ Cond.code yX6_copyFrom cX6_copyFrom 2 none ∈ UW := ⟨mw_2_231, mw_2_232, mw_1_5, mw_2_233⟩
theorem hdX6_countSeen : yX6_countSeen.cls = RX6 ∧ yX6_countSeen.cls ≠ "java/lang/invoke/MethodHandle" ∧ yX6_countSeen.cls ≠ "java/lang/invoke/VarHandle" ∧ (parseMethodDescriptor yX6_countSeen.desc).map (fun d => d.parameters.length) = some 0 := by decide +kernel
theorem hcX6_countSeen : Cond.instanceMethod yX6_countSeen ∈ UW ∧ Cond.selects RX6 yX6_countSeen yX6_countSeen ∈ UW ∧ Cond.initialized RX6 ∈ UW ∧ Cond.code yX6_countSeen cX6_countSeen 3 (some .int) ∈ UW := ⟨mw_2_237, mw_2_238, mw_1_5, mw_2_239⟩
theorem hdX6_drop : yX6_drop.cls = RX6 ∧ yX6_drop.cls ≠ "java/lang/invoke/MethodHandle" ∧ yX6_drop.cls ≠ "java/lang/invoke/VarHandle" ∧ (parseMethodDescriptor yX6_drop.desc).map (fun d => d.parameters.length) = some 1 := by decide +kernel
theorem hcX6_drop : Cond.instanceMethod yX6_drop ∈ UW ∧ Cond.selects RX6 yX6_drop yX6_drop ∈ UW ∧ Cond.initialized RX6 ∈ UW ∧ Cond.code yX6_drop cX6_drop 3 none ∈ UW := ⟨mw_5_28, mw_5_29, mw_1_5, mw_5_30⟩
theorem hdX6_isFull : yX6_isFull.cls = RX6 ∧ yX6_isFull.cls ≠ "java/lang/invoke/MethodHandle" ∧ yX6_isFull.cls ≠ "java/lang/invoke/VarHandle" ∧ (parseMethodDescriptor yX6_isFull.desc).map (fun d => d.parameters.length) = some 0 := by decide +kernel
theorem hcX6_isFull : Cond.instanceMethod yX6_isFull ∈ UW ∧ Cond.selects RX6 yX6_isFull yX6_isFull ∈ UW ∧ Cond.initialized RX6 ∈ UW ∧ Cond.code yX6_isFull cX6_isFull 1 (some .boolean) ∈ UW := ⟨mw_4_111, mw_4_112, mw_1_5, mw_4_113⟩
theorem hdX6_note : yX6_note.cls = RX6 ∧ yX6_note.cls ≠ "java/lang/invoke/MethodHandle" ∧ yX6_note.cls ≠ "java/lang/invoke/VarHandle" ∧ (parseMethodDescriptor yX6_note.desc).map (fun d => d.parameters.length) = some 3 := by decide +kernel
theorem hcX6_note : Cond.instanceMethod yX6_note ∈ UW ∧ Cond.selects RX6 yX6_note yX6_note ∈ UW ∧ Cond.initialized RX6 ∈ UW ∧ Cond.code yX6_note cX6_note 5 none ∈ UW := ⟨mw_5_55, mw_5_56, mw_1_5, mw_5_57⟩
theorem hdX6_noted : yX6_noted.cls = RX6 ∧ yX6_noted.cls ≠ "java/lang/invoke/MethodHandle" ∧ yX6_noted.cls ≠ "java/lang/invoke/VarHandle" ∧ (parseMethodDescriptor yX6_noted.desc).map (fun d => d.parameters.length) = some 2 := by decide +kernel
theorem hcX6_noted : Cond.instanceMethod yX6_noted ∈ UW ∧ Cond.selects RX6 yX6_noted yX6_noted ∈ UW ∧ Cond.initialized RX6 ∈ UW ∧ Cond.code yX6_noted cX6_noted 3 (some .int) ∈ UW := ⟨mw_3_163, mw_3_164, mw_1_5, mw_3_165⟩
theorem hdX6_put : yX6_put.cls = RX6 ∧ yX6_put.cls ≠ "java/lang/invoke/MethodHandle" ∧ yX6_put.cls ≠ "java/lang/invoke/VarHandle" ∧ (parseMethodDescriptor yX6_put.desc).map (fun d => d.parameters.length) = some 2 := by decide +kernel
theorem hcX6_put : Cond.instanceMethod yX6_put ∈ UW ∧ Cond.selects RX6 yX6_put yX6_put ∈ UW ∧ Cond.initialized RX6 ∈ UW ∧ Cond.code yX6_put cX6_put 3 none ∈ UW := ⟨mw_3_23, mw_3_24, mw_1_5, mw_3_25⟩
theorem hdX6_withoutBit : yX6_withoutBit.cls ≠ "java/lang/invoke/MethodHandle" ∧ yX6_withoutBit.cls ≠ "java/lang/invoke/VarHandle" ∧ (parseMethodDescriptor yX6_withoutBit.desc).map (fun d => d.parameters.length) = some 2 := by decide +kernel
theorem hcX6_withoutBit : Cond.static yX6_withoutBit ∈ UW ∧ Cond.initialized yX6_withoutBit.cls ∈ UW ∧ Cond.code yX6_withoutBit cX6_withoutBit 3 (some .int) ∈ UW := ⟨mw_5_32, mw_1_5, mw_5_33⟩
theorem hdX8_init : yX8_init.cls ≠ "java/lang/invoke/MethodHandle" ∧ yX8_init.cls ≠ "java/lang/invoke/VarHandle" ∧ (parseMethodDescriptor yX8_init.desc).map (fun d => d.parameters.length) = some 0 := by decide +kernel
theorem hdX8_addTest : yX8_addTest.cls = RX8 ∧ yX8_addTest.cls ≠ "java/lang/invoke/MethodHandle" ∧ yX8_addTest.cls ≠ "java/lang/invoke/VarHandle" ∧ (parseMethodDescriptor yX8_addTest.desc).map (fun d => d.parameters.length) = some 2 := by decide +kernel
theorem hcX8_addTest : Cond.instanceMethod yX8_addTest ∈ UW ∧ Cond.selects RX8 yX8_addTest yX8_addTest ∈ UW ∧ Cond.initialized RX8 ∈ UW ∧ Cond.code yX8_addTest cX8_addTest 3 (some .int) ∈ UW := ⟨mw_7_26, mw_7_27, mw_1_9, mw_7_28⟩
theorem hdX8_adds : yX8_adds.cls = RX8 ∧ yX8_adds.cls ≠ "java/lang/invoke/MethodHandle" ∧ yX8_adds.cls ≠ "java/lang/invoke/VarHandle" ∧ (parseMethodDescriptor yX8_adds.desc).map (fun d => d.parameters.length) = some 2 := by decide +kernel
theorem hcX8_adds : Cond.instanceMethod yX8_adds ∈ UW ∧ Cond.selects RX8 yX8_adds yX8_adds ∈ UW ∧ Cond.initialized RX8 ∈ UW ∧ Cond.code yX8_adds cX8_adds 5 none ∈ UW := ⟨mw_7_31, mp_6_13, mw_1_9, mw_7_32⟩
theorem hdX8_alike : yX8_alike.cls = RX8 ∧ yX8_alike.cls ≠ "java/lang/invoke/MethodHandle" ∧ yX8_alike.cls ≠ "java/lang/invoke/VarHandle" ∧ (parseMethodDescriptor yX8_alike.desc).map (fun d => d.parameters.length) = some 1 := by decide +kernel
theorem hcX8_alike : Cond.instanceMethod yX8_alike ∈ UW ∧ Cond.selects RX8 yX8_alike yX8_alike ∈ UW ∧ Cond.initialized RX8 ∈ UW ∧ Cond.code yX8_alike cX8_alike 2 (some .int) ∈ UW := ⟨mw_6_211, mw_6_212, mw_1_9, mw_6_213⟩
theorem hdX8_append : yX8_append.cls = RX8 ∧ yX8_append.cls ≠ "java/lang/invoke/MethodHandle" ∧ yX8_append.cls ≠ "java/lang/invoke/VarHandle" ∧ (parseMethodDescriptor yX8_append.desc).map (fun d => d.parameters.length) = some 5 := by decide +kernel
theorem hcX8_append : Cond.instanceMethod yX8_append ∈ UW ∧ Cond.selects RX8 yX8_append yX8_append ∈ UW ∧ Cond.initialized RX8 ∈ UW ∧ Cond.code yX8_append cX8_append 6 (some .int) ∈ UW := ⟨mw_5_148, mw_5_149, mw_1_9, mw_5_150⟩
theorem hdX8_asksFull : yX8_asksFull.cls = RX8 ∧ yX8_asksFull.cls ≠ "java/lang/invoke/MethodHandle" ∧ yX8_asksFull.cls ≠ "java/lang/invoke/VarHandle" ∧ (parseMethodDescriptor yX8_asksFull.desc).map (fun d => d.parameters.length) = some 1 := by decide +kernel
theorem hcX8_asksFull : Cond.instanceMethod yX8_asksFull ∈ UW ∧ Cond.selects RX8 yX8_asksFull yX8_asksFull ∈ UW ∧ Cond.initialized RX8 ∈ UW ∧ Cond.code yX8_asksFull cX8_asksFull 3 none ∈ UW := ⟨mw_6_184, mp_6_2, mw_1_9, mw_6_185⟩
theorem hdX8_asksTest : yX8_asksTest.cls = RX8 ∧ yX8_asksTest.cls ≠ "java/lang/invoke/MethodHandle" ∧ yX8_asksTest.cls ≠ "java/lang/invoke/VarHandle" ∧ (parseMethodDescriptor yX8_asksTest.desc).map (fun d => d.parameters.length) = some 1 := by decide +kernel
theorem hcX8_asksTest : Cond.instanceMethod yX8_asksTest ∈ UW ∧ Cond.selects RX8 yX8_asksTest yX8_asksTest ∈ UW ∧ Cond.initialized RX8 ∈ UW ∧ Cond.code yX8_asksTest cX8_asksTest 3 none ∈ UW := ⟨mw_6_70, mp_4_15, mw_1_9, mw_6_71⟩
theorem hdX8_atOutput : yX8_atOutput.cls = RX8 ∧ yX8_atOutput.cls ≠ "java/lang/invoke/MethodHandle" ∧ yX8_atOutput.cls ≠ "java/lang/invoke/VarHandle" ∧ (parseMethodDescriptor yX8_atOutput.desc).map (fun d => d.parameters.length) = some 2 := by decide +kernel
theorem hcX8_atOutput : Cond.instanceMethod yX8_atOutput ∈ UW ∧ Cond.selects RX8 yX8_atOutput yX8_atOutput ∈ UW ∧ Cond.initialized RX8 ∈ UW ∧ Cond.code yX8_atOutput cX8_atOutput 3 (some .int) ∈ UW := ⟨mw_6_108, mp_5_7, mw_1_9, mw_6_109⟩
theorem hdX8_bends : yX8_bends.cls = RX8 ∧ yX8_bends.cls ≠ "java/lang/invoke/MethodHandle" ∧ yX8_bends.cls ≠ "java/lang/invoke/VarHandle" ∧ (parseMethodDescriptor yX8_bends.desc).map (fun d => d.parameters.length) = some 1 := by decide +kernel
theorem hcX8_bends : Cond.instanceMethod yX8_bends ∈ UW ∧ Cond.selects RX8 yX8_bends yX8_bends ∈ UW ∧ Cond.initialized RX8 ∈ UW ∧ Cond.code yX8_bends cX8_bends 6 none ∈ UW := ⟨mw_6_104, mp_5_6, mw_1_9, mw_6_105⟩
theorem hdX8_between : yX8_between.cls = RX8 ∧ yX8_between.cls ≠ "java/lang/invoke/MethodHandle" ∧ yX8_between.cls ≠ "java/lang/invoke/VarHandle" ∧ (parseMethodDescriptor yX8_between.desc).map (fun d => d.parameters.length) = some 2 := by decide +kernel
theorem hcX8_between : Cond.instanceMethod yX8_between ∈ UW ∧ Cond.selects RX8 yX8_between yX8_between ∈ UW ∧ Cond.initialized RX8 ∈ UW ∧ Cond.code yX8_between cX8_between 4 (some .int) ∈ UW := ⟨mw_6_192, mp_6_4, mw_1_9, mw_6_193⟩
theorem hdX8_bitsAt : yX8_bitsAt.cls = RX8 ∧ yX8_bitsAt.cls ≠ "java/lang/invoke/MethodHandle" ∧ yX8_bitsAt.cls ≠ "java/lang/invoke/VarHandle" ∧ (parseMethodDescriptor yX8_bitsAt.desc).map (fun d => d.parameters.length) = some 1 := by decide +kernel
theorem hcX8_bitsAt : Cond.instanceMethod yX8_bitsAt ∈ UW ∧ Cond.selects RX8 yX8_bitsAt yX8_bitsAt ∈ UW ∧ Cond.initialized RX8 ∈ UW ∧ Cond.code yX8_bitsAt cX8_bitsAt 4 (some .int) ∈ UW := ⟨mw_6_188, mp_6_3, mw_1_9, mw_6_189⟩
theorem hdX8_bitsOf : yX8_bitsOf.cls ≠ "java/lang/invoke/MethodHandle" ∧ yX8_bitsOf.cls ≠ "java/lang/invoke/VarHandle" ∧ (parseMethodDescriptor yX8_bitsOf.desc).map (fun d => d.parameters.length) = some 1 := by decide +kernel
theorem hcX8_bitsOf : Cond.static yX8_bitsOf ∈ UW ∧ Cond.initialized yX8_bitsOf.cls ∈ UW ∧ Cond.code yX8_bitsOf cX8_bitsOf 3 (some .int) ∈ UW := ⟨mw_6_231, mw_1_9, mw_6_232⟩
theorem hdX8_change : yX8_change.cls = RX8 ∧ yX8_change.cls ≠ "java/lang/invoke/MethodHandle" ∧ yX8_change.cls ≠ "java/lang/invoke/VarHandle" ∧ (parseMethodDescriptor yX8_change.desc).map (fun d => d.parameters.length) = some 0 := by decide +kernel
theorem hcX8_change : Cond.instanceMethod yX8_change ∈ UW ∧ Cond.selects RX8 yX8_change yX8_change ∈ UW ∧ Cond.initialized RX8 ∈ UW ∧ Cond.code yX8_change cX8_change 3 none ∈ UW := ⟨mw_6_18, mp_4_3, mw_1_9, mw_6_19⟩
theorem hdX8_checksum : yX8_checksum.cls = RX8 ∧ yX8_checksum.cls ≠ "java/lang/invoke/MethodHandle" ∧ yX8_checksum.cls ≠ "java/lang/invoke/VarHandle" ∧ (parseMethodDescriptor yX8_checksum.desc).map (fun d => d.parameters.length) = some 0 := by decide +kernel
theorem hcX8_checksum : Cond.instanceMethod yX8_checksum ∈ UW ∧ Cond.selects RX8 yX8_checksum yX8_checksum ∈ UW ∧ Cond.initialized RX8 ∈ UW ∧ Cond.code yX8_checksum cX8_checksum 5 (some .long) ∈ UW := ⟨mw_7_58, mw_7_59, mw_1_9, mw_7_60⟩
theorem hdX8_classes : yX8_classes.cls = RX8 ∧ yX8_classes.cls ≠ "java/lang/invoke/MethodHandle" ∧ yX8_classes.cls ≠ "java/lang/invoke/VarHandle" ∧ (parseMethodDescriptor yX8_classes.desc).map (fun d => d.parameters.length) = some 0 := by decide +kernel
theorem hcX8_classes : Cond.instanceMethod yX8_classes ∈ UW ∧ Cond.selects RX8 yX8_classes yX8_classes ∈ UW ∧ Cond.initialized RX8 ∈ UW ∧ Cond.code yX8_classes cX8_classes 3 (some .int) ∈ UW := ⟨mw_6_219, mw_6_220, mw_1_9, mw_6_221⟩
theorem hdX8_cleans : yX8_cleans.cls = RX8 ∧ yX8_cleans.cls ≠ "java/lang/invoke/MethodHandle" ∧ yX8_cleans.cls ≠ "java/lang/invoke/VarHandle" ∧ (parseMethodDescriptor yX8_cleans.desc).map (fun d => d.parameters.length) = some 0 := by decide +kernel
theorem hcX8_cleans : Cond.instanceMethod yX8_cleans ∈ UW ∧ Cond.selects RX8 yX8_cleans yX8_cleans ∈ UW ∧ Cond.initialized RX8 ∈ UW ∧ Cond.code yX8_cleans cX8_cleans 2 none ∈ UW := ⟨mw_6_74, mp_5_0, mw_1_9, mw_6_75⟩
theorem hdX8_complete : yX8_complete.cls = RX8 ∧ yX8_complete.cls ≠ "java/lang/invoke/MethodHandle" ∧ yX8_complete.cls ≠ "java/lang/invoke/VarHandle" ∧ (parseMethodDescriptor yX8_complete.desc).map (fun d => d.parameters.length) = some 0 := by decide +kernel
theorem hcX8_complete : Cond.instanceMethod yX8_complete ∈ UW ∧ Cond.selects RX8 yX8_complete yX8_complete ∈ UW ∧ Cond.initialized RX8 ∈ UW ∧ Cond.code yX8_complete cX8_complete 8 (some .int) ∈ UW := ⟨mw_7_50, mw_7_51, mw_1_9, mw_7_52⟩
theorem hdX8_coverage : yX8_coverage.cls = RX8 ∧ yX8_coverage.cls ≠ "java/lang/invoke/MethodHandle" ∧ yX8_coverage.cls ≠ "java/lang/invoke/VarHandle" ∧ (parseMethodDescriptor yX8_coverage.desc).map (fun d => d.parameters.length) = some 0 := by decide +kernel
theorem hcX8_coverage : Cond.instanceMethod yX8_coverage ∈ UW ∧ Cond.selects RX8 yX8_coverage yX8_coverage ∈ UW ∧ Cond.initialized RX8 ∈ UW ∧ Cond.code yX8_coverage cX8_coverage 2 (some .double) ∈ UW := ⟨mw_6_223, mw_6_224, mw_1_9, mw_6_225⟩
theorem hdX8_decided : yX8_decided.cls ≠ "java/lang/invoke/MethodHandle" ∧ yX8_decided.cls ≠ "java/lang/invoke/VarHandle" ∧ (parseMethodDescriptor yX8_decided.desc).map (fun d => d.parameters.length) = some 3 := by decide +kernel
theorem hcX8_decided : Cond.static yX8_decided ∈ UW ∧ Cond.initialized yX8_decided.cls ∈ UW ∧ Cond.code yX8_decided cX8_decided 3 (some .int) ∈ UW := ⟨mw_6_96, mw_1_9, mw_6_97⟩
theorem hdX8_dependsOn : yX8_dependsOn.cls = RX8 ∧ yX8_dependsOn.cls ≠ "java/lang/invoke/MethodHandle" ∧ yX8_dependsOn.cls ≠ "java/lang/invoke/VarHandle" ∧ (parseMethodDescriptor yX8_dependsOn.desc).map (fun d => d.parameters.length) = some 2 := by decide +kernel
theorem hcX8_dependsOn : Cond.instanceMethod yX8_dependsOn ∈ UW ∧ Cond.selects RX8 yX8_dependsOn yX8_dependsOn ∈ UW ∧ Cond.initialized RX8 ∈ UW ∧ Cond.code yX8_dependsOn cX8_dependsOn 5 (some .boolean) ∈ UW := ⟨mw_6_8, mp_4_1, mw_1_9, mw_6_9⟩
theorem hdX8_errorOffset : yX8_errorOffset.cls = RX8 ∧ yX8_errorOffset.cls ≠ "java/lang/invoke/MethodHandle" ∧ yX8_errorOffset.cls ≠ "java/lang/invoke/VarHandle" ∧ (parseMethodDescriptor yX8_errorOffset.desc).map (fun d => d.parameters.length) = some 0 := by decide +kernel
theorem hcX8_errorOffset : Cond.instanceMethod yX8_errorOffset ∈ UW ∧ Cond.selects RX8 yX8_errorOffset yX8_errorOffset ∈ UW ∧ Cond.initialized RX8 ∈ UW ∧ Cond.code yX8_errorOffset cX8_errorOffset 1 (some .int) ∈ UW := ⟨mw_5_156, mw_5_157, mw_1_9, mw_5_158⟩
theorem hdX8_fails : yX8_fails.cls = RX8 ∧ yX8_fails.cls ≠ "java/lang/invoke/MethodHandle" ∧ yX8_fails.cls ≠ "java/lang/invoke/VarHandle" ∧ (parseMethodDescriptor yX8_fails.desc).map (fun d => d.parameters.length) = some 2 := by decide +kernel
theorem hcX8_fails : Cond.instanceMethod yX8_fails ∈ UW ∧ Cond.selects RX8 yX8_fails yX8_fails ∈ UW ∧ Cond.initialized RX8 ∈ UW ∧ Cond.code yX8_fails cX8_fails 3 (some .boolean) ∈ UW := ⟨mw_5_190, mp_3_8, mw_1_9, mw_5_191⟩
theorem hdX8_faultAtIndex : yX8_faultAtIndex.cls = RX8 ∧ yX8_faultAtIndex.cls ≠ "java/lang/invoke/MethodHandle" ∧ yX8_faultAtIndex.cls ≠ "java/lang/invoke/VarHandle" ∧ (parseMethodDescriptor yX8_faultAtIndex.desc).map (fun d => d.parameters.length) = some 1 := by decide +kernel
theorem hcX8_faultAtIndex : Cond.instanceMethod yX8_faultAtIndex ∈ UW ∧ Cond.selects RX8 yX8_faultAtIndex yX8_faultAtIndex ∈ UW ∧ Cond.initialized RX8 ∈ UW ∧ Cond.code yX8_faultAtIndex cX8_faultAtIndex 2 (some .int) ∈ UW := ⟨mw_7_7, mp_6_10, mw_1_9, mw_7_8⟩
theorem hdX8_faults : yX8_faults.cls = RX8 ∧ yX8_faults.cls ≠ "java/lang/invoke/MethodHandle" ∧ yX8_faults.cls ≠ "java/lang/invoke/VarHandle" ∧ (parseMethodDescriptor yX8_faults.desc).map (fun d => d.parameters.length) = some 0 := by decide +kernel
theorem hcX8_faults : Cond.instanceMethod yX8_faults ∈ UW ∧ Cond.selects RX8 yX8_faults yX8_faults ∈ UW ∧ Cond.initialized RX8 ∈ UW ∧ Cond.code yX8_faults cX8_faults 1 (some .int) ∈ UW := ⟨mw_6_46, mp_4_9, mw_1_9, mw_6_47⟩
theorem hdX8_faulty : yX8_faulty.cls = RX8 ∧ yX8_faulty.cls ≠ "java/lang/invoke/MethodHandle" ∧ yX8_faulty.cls ≠ "java/lang/invoke/VarHandle" ∧ (parseMethodDescriptor yX8_faulty.desc).map (fun d => d.parameters.length) = some 3 := by decide +kernel
theorem hcX8_faulty : Cond.instanceMethod yX8_faulty ∈ UW ∧ Cond.selects RX8 yX8_faulty yX8_faulty ∈ UW ∧ Cond.initialized RX8 ∈ UW ∧ Cond.code yX8_faulty cX8_faulty 4 (some .int) ∈ UW := ⟨mw_6_147, mw_6_148, mw_1_9, mw_6_149⟩
theorem hdX8_fewest : yX8_fewest.cls ≠ "java/lang/invoke/MethodHandle" ∧ yX8_fewest.cls ≠ "java/lang/invoke/VarHandle" ∧ (parseMethodDescriptor yX8_fewest.desc).map (fun d => d.parameters.length) = some 1 := by decide +kernel
theorem hcX8_fewest : Cond.static yX8_fewest ∈ UW ∧ Cond.initialized yX8_fewest.cls ∈ UW ∧ Cond.code yX8_fewest cX8_fewest 1 (some .int) ∈ UW := ⟨mw_5_227, mw_1_9, mw_5_228⟩
theorem hdX8_finders : yX8_finders.cls = RX8 ∧ yX8_finders.cls ≠ "java/lang/invoke/MethodHandle" ∧ yX8_finders.cls ≠ "java/lang/invoke/VarHandle" ∧ (parseMethodDescriptor yX8_finders.desc).map (fun d => d.parameters.length) = some 0 := by decide +kernel
theorem hcX8_finders : Cond.instanceMethod yX8_finders ∈ UW ∧ Cond.selects RX8 yX8_finders yX8_finders ∈ UW ∧ Cond.initialized RX8 ∈ UW ∧ Cond.code yX8_finders cX8_finders 3 none ∈ UW := ⟨mw_6_66, mp_4_14, mw_1_9, mw_6_67⟩
theorem hdX8_finds : yX8_finds.cls = RX8 ∧ yX8_finds.cls ≠ "java/lang/invoke/MethodHandle" ∧ yX8_finds.cls ≠ "java/lang/invoke/VarHandle" ∧ (parseMethodDescriptor yX8_finds.desc).map (fun d => d.parameters.length) = some 2 := by decide +kernel
theorem hcX8_finds : Cond.instanceMethod yX8_finds ∈ UW ∧ Cond.selects RX8 yX8_finds yX8_finds ∈ UW ∧ Cond.initialized RX8 ∈ UW ∧ Cond.code yX8_finds cX8_finds 3 (some .int) ∈ UW := ⟨mw_6_155, mw_6_156, mw_1_9, mw_6_157⟩
theorem hdX8_findsAll : yX8_findsAll.cls = RX8 ∧ yX8_findsAll.cls ≠ "java/lang/invoke/MethodHandle" ∧ yX8_findsAll.cls ≠ "java/lang/invoke/VarHandle" ∧ (parseMethodDescriptor yX8_findsAll.desc).map (fun d => d.parameters.length) = some 1 := by decide +kernel
theorem hcX8_findsAll : Cond.instanceMethod yX8_findsAll ∈ UW ∧ Cond.selects RX8 yX8_findsAll yX8_findsAll ∈ UW ∧ Cond.initialized RX8 ∈ UW ∧ Cond.code yX8_findsAll cX8_findsAll 3 (some .boolean) ∈ UW := ⟨mw_6_235, mp_6_8, mw_1_9, mw_6_236⟩
theorem hdX8_firstAlike : yX8_firstAlike.cls = RX8 ∧ yX8_firstAlike.cls ≠ "java/lang/invoke/MethodHandle" ∧ yX8_firstAlike.cls ≠ "java/lang/invoke/VarHandle" ∧ (parseMethodDescriptor yX8_firstAlike.desc).map (fun d => d.parameters.length) = some 1 := by decide +kernel
theorem hcX8_firstAlike : Cond.instanceMethod yX8_firstAlike ∈ UW ∧ Cond.selects RX8 yX8_firstAlike yX8_firstAlike ∈ UW ∧ Cond.initialized RX8 ∈ UW ∧ Cond.code yX8_firstAlike cX8_firstAlike 3 (some .int) ∈ UW := ⟨mw_6_216, mp_6_7, mw_1_9, mw_6_217⟩
theorem hdX8_fitting : yX8_fitting.cls = RX8 ∧ yX8_fitting.cls ≠ "java/lang/invoke/MethodHandle" ∧ yX8_fitting.cls ≠ "java/lang/invoke/VarHandle" ∧ (parseMethodDescriptor yX8_fitting.desc).map (fun d => d.parameters.length) = some 0 := by decide +kernel
theorem hcX8_fitting : Cond.instanceMethod yX8_fitting ∈ UW ∧ Cond.selects RX8 yX8_fitting yX8_fitting ∈ UW ∧ Cond.initialized RX8 ∈ UW ∧ Cond.code yX8_fitting cX8_fitting 3 (some .int) ∈ UW := ⟨mw_7_3, mp_6_9, mw_1_9, mw_7_4⟩
theorem hdX8_forget : yX8_forget.cls = RX8 ∧ yX8_forget.cls ≠ "java/lang/invoke/MethodHandle" ∧ yX8_forget.cls ≠ "java/lang/invoke/VarHandle" ∧ (parseMethodDescriptor yX8_forget.desc).map (fun d => d.parameters.length) = some 0 := by decide +kernel
theorem hcX8_forget : Cond.instanceMethod yX8_forget ∈ UW ∧ Cond.selects RX8 yX8_forget yX8_forget ∈ UW ∧ Cond.initialized RX8 ∈ UW ∧ Cond.code yX8_forget cX8_forget 3 (some .int) ∈ UW := ⟨mw_7_46, mw_7_47, mw_1_9, mw_7_48⟩
theorem hdX8_found : yX8_found.cls = RX8 ∧ yX8_found.cls ≠ "java/lang/invoke/MethodHandle" ∧ yX8_found.cls ≠ "java/lang/invoke/VarHandle" ∧ (parseMethodDescriptor yX8_found.desc).map (fun d => d.parameters.length) = some 1 := by decide +kernel
theorem hcX8_found : Cond.instanceMethod yX8_found ∈ UW ∧ Cond.selects RX8 yX8_found yX8_found ∈ UW ∧ Cond.initialized RX8 ∈ UW ∧ Cond.code yX8_found cX8_found 6 (some .int) ∈ UW := ⟨mw_6_100, mp_5_5, mw_1_9, mw_6_101⟩
theorem hdX8_foundMany : yX8_foundMany.cls = RX8 ∧ yX8_foundMany.cls ≠ "java/lang/invoke/MethodHandle" ∧ yX8_foundMany.cls ≠ "java/lang/invoke/VarHandle" ∧ (parseMethodDescriptor yX8_foundMany.desc).map (fun d => d.parameters.length) = some 0 := by decide +kernel
theorem hcX8_foundMany : Cond.instanceMethod yX8_foundMany ∈ UW ∧ Cond.selects RX8 yX8_foundMany yX8_foundMany ∈ UW ∧ Cond.initialized RX8 ∈ UW ∧ Cond.code yX8_foundMany cX8_foundMany 3 (some .int) ∈ UW := ⟨mw_6_62, mp_4_13, mw_1_9, mw_6_63⟩
theorem hdX8_four : yX8_four.cls = RX8 ∧ yX8_four.cls ≠ "java/lang/invoke/MethodHandle" ∧ yX8_four.cls ≠ "java/lang/invoke/VarHandle" ∧ (parseMethodDescriptor yX8_four.desc).map (fun d => d.parameters.length) = some 1 := by decide +kernel
theorem hcX8_four : Cond.instanceMethod yX8_four ∈ UW ∧ Cond.selects RX8 yX8_four yX8_four ∈ UW ∧ Cond.initialized RX8 ∈ UW ∧ Cond.code yX8_four cX8_four 3 none ∈ UW := ⟨mw_5_153, mp_3_3, mw_1_9, mw_5_154⟩
theorem hdX8_fulls : yX8_fulls.cls = RX8 ∧ yX8_fulls.cls ≠ "java/lang/invoke/MethodHandle" ∧ yX8_fulls.cls ≠ "java/lang/invoke/VarHandle" ∧ (parseMethodDescriptor yX8_fulls.desc).map (fun d => d.parameters.length) = some 0 := by decide +kernel
theorem hcX8_fulls : Cond.instanceMethod yX8_fulls ∈ UW ∧ Cond.selects RX8 yX8_fulls yX8_fulls ∈ UW ∧ Cond.initialized RX8 ∈ UW ∧ Cond.code yX8_fulls cX8_fulls 1 (some .int) ∈ UW := ⟨mw_6_180, mp_6_1, mw_1_9, mw_6_181⟩
theorem hdX8_gate : yX8_gate.cls = RX8 ∧ yX8_gate.cls ≠ "java/lang/invoke/MethodHandle" ∧ yX8_gate.cls ≠ "java/lang/invoke/VarHandle" ∧ (parseMethodDescriptor yX8_gate.desc).map (fun d => d.parameters.length) = some 2 := by decide +kernel
theorem hcX8_gate : Cond.instanceMethod yX8_gate ∈ UW ∧ Cond.selects RX8 yX8_gate yX8_gate ∈ UW ∧ Cond.initialized RX8 ∈ UW ∧ Cond.code yX8_gate cX8_gate 8 (some .int) ∈ UW := ⟨mw_6_78, mp_5_1, mw_1_9, mw_6_79⟩
theorem hdX8_get : yX8_get.cls = RX8 ∧ yX8_get.cls ≠ "java/lang/invoke/MethodHandle" ∧ yX8_get.cls ≠ "java/lang/invoke/VarHandle" ∧ (parseMethodDescriptor yX8_get.desc).map (fun d => d.parameters.length) = some 1 := by decide +kernel
theorem hcX8_get : Cond.instanceMethod yX8_get ∈ UW ∧ Cond.selects RX8 yX8_get yX8_get ∈ UW ∧ Cond.initialized RX8 ∈ UW ∧ Cond.code yX8_get cX8_get 2 (some .int) ∈ UW := ⟨mw_6_22, mp_4_4, mw_1_9, mw_6_23⟩
theorem hdX8_greatest : yX8_greatest.cls = RX8 ∧ yX8_greatest.cls ≠ "java/lang/invoke/MethodHandle" ∧ yX8_greatest.cls ≠ "java/lang/invoke/VarHandle" ∧ (parseMethodDescriptor yX8_greatest.desc).map (fun d => d.parameters.length) = some 1 := by decide +kernel
theorem hcX8_greatest : Cond.instanceMethod yX8_greatest ∈ UW ∧ Cond.selects RX8 yX8_greatest yX8_greatest ∈ UW ∧ Cond.initialized RX8 ∈ UW ∧ Cond.code yX8_greatest cX8_greatest 6 (some .int) ∈ UW := ⟨mw_7_23, mp_6_12, mw_1_9, mw_7_24⟩
theorem hdX8_have : yX8_have.cls = RX8 ∧ yX8_have.cls ≠ "java/lang/invoke/MethodHandle" ∧ yX8_have.cls ≠ "java/lang/invoke/VarHandle" ∧ (parseMethodDescriptor yX8_have.desc).map (fun d => d.parameters.length) = some 1 := by decide +kernel
theorem hcX8_have : Cond.instanceMethod yX8_have ∈ UW ∧ Cond.selects RX8 yX8_have yX8_have ∈ UW ∧ Cond.initialized RX8 ∈ UW ∧ Cond.code yX8_have cX8_have 2 (some .int) ∈ UW := ⟨mw_6_93, mp_5_4, mw_1_9, mw_6_94⟩
theorem hdX8_here : yX8_here.cls = RX8 ∧ yX8_here.cls ≠ "java/lang/invoke/MethodHandle" ∧ yX8_here.cls ≠ "java/lang/invoke/VarHandle" ∧ (parseMethodDescriptor yX8_here.desc).map (fun d => d.parameters.length) = some 0 := by decide +kernel
theorem hcX8_here : Cond.instanceMethod yX8_here ∈ UW ∧ Cond.selects RX8 yX8_here yX8_here ∈ UW ∧ Cond.initialized RX8 ∈ UW ∧ Cond.code yX8_here cX8_here 1 (some .int) ∈ UW := ⟨mw_5_181, mp_3_7, mw_1_9, mw_5_182⟩
theorem hdX8_hidden : yX8_hidden.cls = RX8 ∧ yX8_hidden.cls ≠ "java/lang/invoke/MethodHandle" ∧ yX8_hidden.cls ≠ "java/lang/invoke/VarHandle" ∧ (parseMethodDescriptor yX8_hidden.desc).map (fun d => d.parameters.length) = some 0 := by decide +kernel
theorem hcX8_hidden : Cond.instanceMethod yX8_hidden ∈ UW ∧ Cond.selects RX8 yX8_hidden yX8_hidden ∈ UW ∧ Cond.initialized RX8 ∈ UW ∧ Cond.code yX8_hidden cX8_hidden 1 (some .int) ∈ UW := ⟨mw_6_199, mw_6_200, mw_1_9, mw_6_201⟩
theorem hdX8_hiddenMany : yX8_hiddenMany.cls = RX8 ∧ yX8_hiddenMany.cls ≠ "java/lang/invoke/MethodHandle" ∧ yX8_hiddenMany.cls ≠ "java/lang/invoke/VarHandle" ∧ (parseMethodDescriptor yX8_hiddenMany.desc).map (fun d => d.parameters.length) = some 0 := by decide +kernel
theorem hcX8_hiddenMany : Cond.instanceMethod yX8_hiddenMany ∈ UW ∧ Cond.selects RX8 yX8_hiddenMany yX8_hiddenMany ∈ UW ∧ Cond.initialized RX8 ∈ UW ∧ Cond.code yX8_hiddenMany cX8_hiddenMany 3 (some .int) ∈ UW := ⟨mw_6_204, mp_6_5, mw_1_9, mw_6_205⟩
theorem hdX8_inputs : yX8_inputs.cls = RX8 ∧ yX8_inputs.cls ≠ "java/lang/invoke/MethodHandle" ∧ yX8_inputs.cls ≠ "java/lang/invoke/VarHandle" ∧ (parseMethodDescriptor yX8_inputs.desc).map (fun d => d.parameters.length) = some 0 := by decide +kernel
theorem hcX8_inputs : Cond.instanceMethod yX8_inputs ∈ UW ∧ Cond.selects RX8 yX8_inputs yX8_inputs ∈ UW ∧ Cond.initialized RX8 ∈ UW ∧ Cond.code yX8_inputs cX8_inputs 1 (some .int) ∈ UW := ⟨mw_6_38, mp_4_7, mw_1_9, mw_6_39⟩
theorem hdX8_isDigit : yX8_isDigit.cls ≠ "java/lang/invoke/MethodHandle" ∧ yX8_isDigit.cls ≠ "java/lang/invoke/VarHandle" ∧ (parseMethodDescriptor yX8_isDigit.desc).map (fun d => d.parameters.length) = some 1 := by decide +kernel
theorem hcX8_isDigit : Cond.static yX8_isDigit ∈ UW ∧ Cond.initialized yX8_isDigit.cls ∈ UW ∧ Cond.code yX8_isDigit cX8_isDigit 1 (some .boolean) ∈ UW := ⟨mw_5_197, mw_1_9, mw_5_198⟩
theorem hdX8_isFault : yX8_isFault.cls = RX8 ∧ yX8_isFault.cls ≠ "java/lang/invoke/MethodHandle" ∧ yX8_isFault.cls ≠ "java/lang/invoke/VarHandle" ∧ (parseMethodDescriptor yX8_isFault.desc).map (fun d => d.parameters.length) = some 1 := by decide +kernel
theorem hcX8_isFault : Cond.instanceMethod yX8_isFault ∈ UW ∧ Cond.selects RX8 yX8_isFault yX8_isFault ∈ UW ∧ Cond.initialized RX8 ∈ UW ∧ Cond.code yX8_isFault cX8_isFault 2 (some .boolean) ∈ UW := ⟨mw_6_152, mp_5_14, mw_1_9, mw_6_153⟩
theorem hdX8_isFit : yX8_isFit.cls = RX8 ∧ yX8_isFit.cls ≠ "java/lang/invoke/MethodHandle" ∧ yX8_isFit.cls ≠ "java/lang/invoke/VarHandle" ∧ (parseMethodDescriptor yX8_isFit.desc).map (fun d => d.parameters.length) = some 1 := by decide +kernel
theorem hcX8_isFit : Cond.instanceMethod yX8_isFit ∈ UW ∧ Cond.selects RX8 yX8_isFit yX8_isFit ∈ UW ∧ Cond.initialized RX8 ∈ UW ∧ Cond.code yX8_isFit cX8_isFit 4 (some .boolean) ∈ UW := ⟨mw_7_11, mp_6_11, mw_1_9, mw_7_12⟩
theorem hdX8_isHidden : yX8_isHidden.cls = RX8 ∧ yX8_isHidden.cls ≠ "java/lang/invoke/MethodHandle" ∧ yX8_isHidden.cls ≠ "java/lang/invoke/VarHandle" ∧ (parseMethodDescriptor yX8_isHidden.desc).map (fun d => d.parameters.length) = some 1 := by decide +kernel
theorem hcX8_isHidden : Cond.instanceMethod yX8_isHidden ∈ UW ∧ Cond.selects RX8 yX8_isHidden yX8_isHidden ∈ UW ∧ Cond.initialized RX8 ∈ UW ∧ Cond.code yX8_isHidden cX8_isHidden 2 (some .boolean) ∈ UW := ⟨mw_6_208, mp_6_6, mw_1_9, mw_6_209⟩
theorem hdX8_isIn : yX8_isIn.cls ≠ "java/lang/invoke/MethodHandle" ∧ yX8_isIn.cls ≠ "java/lang/invoke/VarHandle" ∧ (parseMethodDescriptor yX8_isIn.desc).map (fun d => d.parameters.length) = some 3 := by decide +kernel
theorem hcX8_isIn : Cond.static yX8_isIn ∈ UW ∧ Cond.initialized yX8_isIn.cls ∈ UW ∧ Cond.code yX8_isIn cX8_isIn 3 (some .boolean) ∈ UW := ⟨mw_5_164, mw_1_9, mw_5_165⟩
theorem hdX8_isLetter : yX8_isLetter.cls ≠ "java/lang/invoke/MethodHandle" ∧ yX8_isLetter.cls ≠ "java/lang/invoke/VarHandle" ∧ (parseMethodDescriptor yX8_isLetter.desc).map (fun d => d.parameters.length) = some 1 := by decide +kernel
theorem hcX8_isLetter : Cond.static yX8_isLetter ∈ UW ∧ Cond.initialized yX8_isLetter.cls ∈ UW ∧ Cond.code yX8_isLetter cX8_isLetter 1 (some .boolean) ∈ UW := ⟨mw_5_184, mw_1_9, mw_5_185⟩
theorem hdX8_isTest : yX8_isTest.cls = RX8 ∧ yX8_isTest.cls ≠ "java/lang/invoke/MethodHandle" ∧ yX8_isTest.cls ≠ "java/lang/invoke/VarHandle" ∧ (parseMethodDescriptor yX8_isTest.desc).map (fun d => d.parameters.length) = some 1 := by decide +kernel
theorem hcX8_isTest : Cond.instanceMethod yX8_isTest ∈ UW ∧ Cond.selects RX8 yX8_isTest yX8_isTest ∈ UW ∧ Cond.initialized RX8 ∈ UW ∧ Cond.code yX8_isTest cX8_isTest 2 (some .boolean) ∈ UW := ⟨mw_6_144, mp_5_13, mw_1_9, mw_6_145⟩
theorem hdX8_isWire : yX8_isWire.cls = RX8 ∧ yX8_isWire.cls ≠ "java/lang/invoke/MethodHandle" ∧ yX8_isWire.cls ≠ "java/lang/invoke/VarHandle" ∧ (parseMethodDescriptor yX8_isWire.desc).map (fun d => d.parameters.length) = some 1 := by decide +kernel
theorem hcX8_isWire : Cond.instanceMethod yX8_isWire ∈ UW ∧ Cond.selects RX8 yX8_isWire yX8_isWire ∈ UW ∧ Cond.initialized RX8 ∈ UW ∧ Cond.code yX8_isWire cX8_isWire 2 (some .boolean) ∈ UW := ⟨mw_6_120, mp_5_9, mw_1_9, mw_6_121⟩
theorem hdX8_joins : yX8_joins.cls ≠ "java/lang/invoke/MethodHandle" ∧ yX8_joins.cls ≠ "java/lang/invoke/VarHandle" ∧ (parseMethodDescriptor yX8_joins.desc).map (fun d => d.parameters.length) = some 2 := by decide +kernel
theorem hcX8_joins : Cond.static yX8_joins ∈ UW ∧ Cond.initialized yX8_joins.cls ∈ UW ∧ Cond.code yX8_joins cX8_joins 4 (some .long) ∈ UW := ⟨mw_7_62, mw_1_9, mw_7_63⟩
theorem hdX8_kindHere : yX8_kindHere.cls = RX8 ∧ yX8_kindHere.cls ≠ "java/lang/invoke/MethodHandle" ∧ yX8_kindHere.cls ≠ "java/lang/invoke/VarHandle" ∧ (parseMethodDescriptor yX8_kindHere.desc).map (fun d => d.parameters.length) = some 0 := by decide +kernel
theorem hcX8_kindHere : Cond.instanceMethod yX8_kindHere ∈ UW ∧ Cond.selects RX8 yX8_kindHere yX8_kindHere ∈ UW ∧ Cond.initialized RX8 ∈ UW ∧ Cond.code yX8_kindHere cX8_kindHere 1 (some .int) ∈ UW := ⟨mw_5_215, mp_3_13, mw_1_9, mw_5_216⟩
theorem hdX8_kindOf : yX8_kindOf.cls = RX8 ∧ yX8_kindOf.cls ≠ "java/lang/invoke/MethodHandle" ∧ yX8_kindOf.cls ≠ "java/lang/invoke/VarHandle" ∧ (parseMethodDescriptor yX8_kindOf.desc).map (fun d => d.parameters.length) = some 1 := by decide +kernel
theorem hcX8_kindOf : Cond.instanceMethod yX8_kindOf ∈ UW ∧ Cond.selects RX8 yX8_kindOf yX8_kindOf ∈ UW ∧ Cond.initialized RX8 ∈ UW ∧ Cond.code yX8_kindOf cX8_kindOf 2 (some .int) ∈ UW := ⟨mw_6_82, mp_5_2, mw_1_9, mw_6_83⟩
theorem hdX8_lays : yX8_lays.cls = RX8 ∧ yX8_lays.cls ≠ "java/lang/invoke/MethodHandle" ∧ yX8_lays.cls ≠ "java/lang/invoke/VarHandle" ∧ (parseMethodDescriptor yX8_lays.desc).map (fun d => d.parameters.length) = some 0 := by decide +kernel
theorem hcX8_lays : Cond.instanceMethod yX8_lays ∈ UW ∧ Cond.selects RX8 yX8_lays yX8_lays ∈ UW ∧ Cond.initialized RX8 ∈ UW ∧ Cond.code yX8_lays cX8_lays 3 none ∈ UW := ⟨mw_6_176, mp_6_0, mw_1_9, mw_6_177⟩
theorem hdX8_leastSet : yX8_leastSet.cls = RX8 ∧ yX8_leastSet.cls ≠ "java/lang/invoke/MethodHandle" ∧ yX8_leastSet.cls ≠ "java/lang/invoke/VarHandle" ∧ (parseMethodDescriptor yX8_leastSet.desc).map (fun d => d.parameters.length) = some 0 := by decide +kernel
theorem hcX8_leastSet : Cond.instanceMethod yX8_leastSet ∈ UW ∧ Cond.selects RX8 yX8_leastSet yX8_leastSet ∈ UW ∧ Cond.initialized RX8 ∈ UW ∧ Cond.code yX8_leastSet cX8_leastSet 3 (some .int) ∈ UW := ⟨mw_6_227, mw_6_228, mw_1_9, mw_6_229⟩
theorem hdX8_levelOf : yX8_levelOf.cls = RX8 ∧ yX8_levelOf.cls ≠ "java/lang/invoke/MethodHandle" ∧ yX8_levelOf.cls ≠ "java/lang/invoke/VarHandle" ∧ (parseMethodDescriptor yX8_levelOf.desc).map (fun d => d.parameters.length) = some 1 := by decide +kernel
theorem hcX8_levelOf : Cond.instanceMethod yX8_levelOf ∈ UW ∧ Cond.selects RX8 yX8_levelOf yX8_levelOf ∈ UW ∧ Cond.initialized RX8 ∈ UW ∧ Cond.code yX8_levelOf cX8_levelOf 6 (some .int) ∈ UW := ⟨mw_6_112, mp_5_8, mw_1_9, mw_6_113⟩
theorem hdX8_load : yX8_load.cls = RX8 ∧ yX8_load.cls ≠ "java/lang/invoke/MethodHandle" ∧ yX8_load.cls ≠ "java/lang/invoke/VarHandle" ∧ (parseMethodDescriptor yX8_load.desc).map (fun d => d.parameters.length) = some 1 := by decide +kernel
theorem hcX8_load : Cond.instanceMethod yX8_load ∈ UW ∧ Cond.selects RX8 yX8_load yX8_load ∈ UW ∧ Cond.initialized RX8 ∈ UW ∧ Cond.code yX8_load cX8_load 3 (some .int) ∈ UW := ⟨mw_5_160, mw_5_161, mw_1_9, mw_5_162⟩
theorem hdX8_mostOf : yX8_mostOf.cls ≠ "java/lang/invoke/MethodHandle" ∧ yX8_mostOf.cls ≠ "java/lang/invoke/VarHandle" ∧ (parseMethodDescriptor yX8_mostOf.desc).map (fun d => d.parameters.length) = some 1 := by decide +kernel
theorem hcX8_mostOf : Cond.static yX8_mostOf ∈ UW ∧ Cond.initialized yX8_mostOf.cls ∈ UW ∧ Cond.code yX8_mostOf cX8_mostOf 1 (some .int) ∈ UW := ⟨mw_5_230, mw_1_9, mw_5_231⟩
theorem hdX8_nextTest : yX8_nextTest.cls = RX8 ∧ yX8_nextTest.cls ≠ "java/lang/invoke/MethodHandle" ∧ yX8_nextTest.cls ≠ "java/lang/invoke/VarHandle" ∧ (parseMethodDescriptor yX8_nextTest.desc).map (fun d => d.parameters.length) = some 0 := by decide +kernel
theorem hcX8_nextTest : Cond.instanceMethod yX8_nextTest ∈ UW ∧ Cond.selects RX8 yX8_nextTest yX8_nextTest ∈ UW ∧ Cond.initialized RX8 ∈ UW ∧ Cond.code yX8_nextTest cX8_nextTest 5 (some .int) ∈ UW := ⟨mw_7_18, mw_7_19, mw_1_9, mw_7_20⟩
theorem hdX8_ofWire : yX8_ofWire.cls = RX8 ∧ yX8_ofWire.cls ≠ "java/lang/invoke/MethodHandle" ∧ yX8_ofWire.cls ≠ "java/lang/invoke/VarHandle" ∧ (parseMethodDescriptor yX8_ofWire.desc).map (fun d => d.parameters.length) = some 2 := by decide +kernel
theorem hcX8_ofWire : Cond.instanceMethod yX8_ofWire ∈ UW ∧ Cond.selects RX8 yX8_ofWire yX8_ofWire ∈ UW ∧ Cond.initialized RX8 ∈ UW ∧ Cond.code yX8_ofWire cX8_ofWire 3 (some .int) ∈ UW := ⟨mw_6_124, mp_5_10, mw_1_9, mw_6_125⟩
theorem hdX8_operand : yX8_operand.cls = RX8 ∧ yX8_operand.cls ≠ "java/lang/invoke/MethodHandle" ∧ yX8_operand.cls ≠ "java/lang/invoke/VarHandle" ∧ (parseMethodDescriptor yX8_operand.desc).map (fun d => d.parameters.length) = some 2 := by decide +kernel
theorem hcX8_operand : Cond.instanceMethod yX8_operand ∈ UW ∧ Cond.selects RX8 yX8_operand yX8_operand ∈ UW ∧ Cond.initialized RX8 ∈ UW ∧ Cond.code yX8_operand cX8_operand 3 (some .int) ∈ UW := ⟨mw_6_135, mw_6_136, mw_1_9, mw_6_137⟩
theorem hdX8_operandOf : yX8_operandOf.cls = RX8 ∧ yX8_operandOf.cls ≠ "java/lang/invoke/MethodHandle" ∧ yX8_operandOf.cls ≠ "java/lang/invoke/VarHandle" ∧ (parseMethodDescriptor yX8_operandOf.desc).map (fun d => d.parameters.length) = some 2 := by decide +kernel
theorem hcX8_operandOf : Cond.instanceMethod yX8_operandOf ∈ UW ∧ Cond.selects RX8 yX8_operandOf yX8_operandOf ∈ UW ∧ Cond.initialized RX8 ∈ UW ∧ Cond.code yX8_operandOf cX8_operandOf 3 (some .int) ∈ UW := ⟨mw_6_86, mp_5_3, mw_1_9, mw_6_87⟩
theorem hdX8_outputOf : yX8_outputOf.cls = RX8 ∧ yX8_outputOf.cls ≠ "java/lang/invoke/MethodHandle" ∧ yX8_outputOf.cls ≠ "java/lang/invoke/VarHandle" ∧ (parseMethodDescriptor yX8_outputOf.desc).map (fun d => d.parameters.length) = some 1 := by decide +kernel
theorem hcX8_outputOf : Cond.instanceMethod yX8_outputOf ∈ UW ∧ Cond.selects RX8 yX8_outputOf yX8_outputOf ∈ UW ∧ Cond.initialized RX8 ∈ UW ∧ Cond.code yX8_outputOf cX8_outputOf 3 (some .int) ∈ UW := ⟨mw_6_132, mp_5_12, mw_1_9, mw_6_133⟩
theorem hdX8_outputs : yX8_outputs.cls = RX8 ∧ yX8_outputs.cls ≠ "java/lang/invoke/MethodHandle" ∧ yX8_outputs.cls ≠ "java/lang/invoke/VarHandle" ∧ (parseMethodDescriptor yX8_outputs.desc).map (fun d => d.parameters.length) = some 0 := by decide +kernel
theorem hcX8_outputs : Cond.instanceMethod yX8_outputs ∈ UW ∧ Cond.selects RX8 yX8_outputs yX8_outputs ∈ UW ∧ Cond.initialized RX8 ∈ UW ∧ Cond.code yX8_outputs cX8_outputs 1 (some .int) ∈ UW := ⟨mw_6_42, mp_4_8, mw_1_9, mw_6_43⟩
theorem hdX8_plain : yX8_plain.cls = RX8 ∧ yX8_plain.cls ≠ "java/lang/invoke/MethodHandle" ∧ yX8_plain.cls ≠ "java/lang/invoke/VarHandle" ∧ (parseMethodDescriptor yX8_plain.desc).map (fun d => d.parameters.length) = some 0 := by decide +kernel
theorem hcX8_plain : Cond.instanceMethod yX8_plain ∈ UW ∧ Cond.selects RX8 yX8_plain yX8_plain ∈ UW ∧ Cond.initialized RX8 ∈ UW ∧ Cond.code yX8_plain cX8_plain 2 none ∈ UW := ⟨mw_5_66, mp_3_1, mw_1_9, mw_5_67⟩
theorem hdX8_put : yX8_put.cls = RX8 ∧ yX8_put.cls ≠ "java/lang/invoke/MethodHandle" ∧ yX8_put.cls ≠ "java/lang/invoke/VarHandle" ∧ (parseMethodDescriptor yX8_put.desc).map (fun d => d.parameters.length) = some 2 := by decide +kernel
theorem hcX8_put : Cond.instanceMethod yX8_put ∈ UW ∧ Cond.selects RX8 yX8_put yX8_put ∈ UW ∧ Cond.initialized RX8 ∈ UW ∧ Cond.code yX8_put cX8_put 3 none ∈ UW := ⟨mw_5_70, mp_3_2, mw_1_9, mw_5_71⟩
theorem hdX8_reads : yX8_reads.cls = RX8 ∧ yX8_reads.cls ≠ "java/lang/invoke/MethodHandle" ∧ yX8_reads.cls ≠ "java/lang/invoke/VarHandle" ∧ (parseMethodDescriptor yX8_reads.desc).map (fun d => d.parameters.length) = some 2 := by decide +kernel
theorem hcX8_reads : Cond.instanceMethod yX8_reads ∈ UW ∧ Cond.selects RX8 yX8_reads yX8_reads ∈ UW ∧ Cond.initialized RX8 ∈ UW ∧ Cond.code yX8_reads cX8_reads 3 (some .boolean) ∈ UW := ⟨mw_5_194, mp_3_9, mw_1_9, mw_5_195⟩
theorem hdX8_readsAll : yX8_readsAll.cls = RX8 ∧ yX8_readsAll.cls ≠ "java/lang/invoke/MethodHandle" ∧ yX8_readsAll.cls ≠ "java/lang/invoke/VarHandle" ∧ (parseMethodDescriptor yX8_readsAll.desc).map (fun d => d.parameters.length) = some 0 := by decide +kernel
theorem hcX8_readsAll : Cond.instanceMethod yX8_readsAll ∈ UW ∧ Cond.selects RX8 yX8_readsAll yX8_readsAll ∈ UW ∧ Cond.initialized RX8 ∈ UW ∧ Cond.code yX8_readsAll cX8_readsAll 1 (some .boolean) ∈ UW := ⟨mw_5_172, mp_3_5, mw_1_9, mw_5_173⟩
theorem hdX8_readsBridge : yX8_readsBridge.cls = RX8 ∧ yX8_readsBridge.cls ≠ "java/lang/invoke/MethodHandle" ∧ yX8_readsBridge.cls ≠ "java/lang/invoke/VarHandle" ∧ (parseMethodDescriptor yX8_readsBridge.desc).map (fun d => d.parameters.length) = some 1 := by decide +kernel
theorem hcX8_readsBridge : Cond.instanceMethod yX8_readsBridge ∈ UW ∧ Cond.selects RX8 yX8_readsBridge yX8_readsBridge ∈ UW ∧ Cond.initialized RX8 ∈ UW ∧ Cond.code yX8_readsBridge cX8_readsBridge 5 (some .boolean) ∈ UW := ⟨mw_6_4, mp_4_0, mw_1_9, mw_6_5⟩
theorem hdX8_readsGate : yX8_readsGate.cls = RX8 ∧ yX8_readsGate.cls ≠ "java/lang/invoke/MethodHandle" ∧ yX8_readsGate.cls ≠ "java/lang/invoke/VarHandle" ∧ (parseMethodDescriptor yX8_readsGate.desc).map (fun d => d.parameters.length) = some 1 := by decide +kernel
theorem hcX8_readsGate : Cond.instanceMethod yX8_readsGate ∈ UW ∧ Cond.selects RX8 yX8_readsGate yX8_readsGate ∈ UW ∧ Cond.initialized RX8 ∈ UW ∧ Cond.code yX8_readsGate cX8_readsGate 5 (some .boolean) ∈ UW := ⟨mw_5_211, mp_3_12, mw_1_9, mw_5_212⟩
theorem hdX8_readsLine : yX8_readsLine.cls = RX8 ∧ yX8_readsLine.cls ≠ "java/lang/invoke/MethodHandle" ∧ yX8_readsLine.cls ≠ "java/lang/invoke/VarHandle" ∧ (parseMethodDescriptor yX8_readsLine.desc).map (fun d => d.parameters.length) = some 0 := by decide +kernel
theorem hcX8_readsLine : Cond.instanceMethod yX8_readsLine ∈ UW ∧ Cond.selects RX8 yX8_readsLine yX8_readsLine ∈ UW ∧ Cond.initialized RX8 ∈ UW ∧ Cond.code yX8_readsLine cX8_readsLine 3 (some .boolean) ∈ UW := ⟨mw_5_206, mp_3_11, mw_1_9, mw_5_207⟩
theorem hdX8_readsOutputs : yX8_readsOutputs.cls = RX8 ∧ yX8_readsOutputs.cls ≠ "java/lang/invoke/MethodHandle" ∧ yX8_readsOutputs.cls ≠ "java/lang/invoke/VarHandle" ∧ (parseMethodDescriptor yX8_readsOutputs.desc).map (fun d => d.parameters.length) = some 0 := by decide +kernel
theorem hcX8_readsOutputs : Cond.instanceMethod yX8_readsOutputs ∈ UW ∧ Cond.selects RX8 yX8_readsOutputs yX8_readsOutputs ∈ UW ∧ Cond.initialized RX8 ∈ UW ∧ Cond.code yX8_readsOutputs cX8_readsOutputs 3 (some .boolean) ∈ UW := ⟨mw_5_239, mp_3_15, mw_1_9, mw_6_0⟩
theorem hdX8_readsTest : yX8_readsTest.cls = RX8 ∧ yX8_readsTest.cls ≠ "java/lang/invoke/MethodHandle" ∧ yX8_readsTest.cls ≠ "java/lang/invoke/VarHandle" ∧ (parseMethodDescriptor yX8_readsTest.desc).map (fun d => d.parameters.length) = some 1 := by decide +kernel
theorem hcX8_readsTest : Cond.instanceMethod yX8_readsTest ∈ UW ∧ Cond.selects RX8 yX8_readsTest yX8_readsTest ∈ UW ∧ Cond.initialized RX8 ∈ UW ∧ Cond.code yX8_readsTest cX8_readsTest 5 (some .boolean) ∈ UW := ⟨mw_6_13, mp_4_2, mw_1_9, mw_6_14⟩
theorem hdX8_readsWire : yX8_readsWire.cls = RX8 ∧ yX8_readsWire.cls ≠ "java/lang/invoke/MethodHandle" ∧ yX8_readsWire.cls ≠ "java/lang/invoke/VarHandle" ∧ (parseMethodDescriptor yX8_readsWire.desc).map (fun d => d.parameters.length) = some 0 := by decide +kernel
theorem hcX8_readsWire : Cond.instanceMethod yX8_readsWire ∈ UW ∧ Cond.selects RX8 yX8_readsWire yX8_readsWire ∈ UW ∧ Cond.initialized RX8 ∈ UW ∧ Cond.code yX8_readsWire cX8_readsWire 1 (some .boolean) ∈ UW := ⟨mw_5_234, mp_3_14, mw_1_9, mw_5_235⟩
theorem hdX8_removeTest : yX8_removeTest.cls = RX8 ∧ yX8_removeTest.cls ≠ "java/lang/invoke/MethodHandle" ∧ yX8_removeTest.cls ≠ "java/lang/invoke/VarHandle" ∧ (parseMethodDescriptor yX8_removeTest.desc).map (fun d => d.parameters.length) = some 1 := by decide +kernel
theorem hcX8_removeTest : Cond.instanceMethod yX8_removeTest ∈ UW ∧ Cond.selects RX8 yX8_removeTest yX8_removeTest ∈ UW ∧ Cond.initialized RX8 ∈ UW ∧ Cond.code yX8_removeTest cX8_removeTest 4 (some .int) ∈ UW := ⟨mw_7_34, mw_7_35, mw_1_9, mw_7_36⟩
theorem hdX8_right : yX8_right.cls = RX8 ∧ yX8_right.cls ≠ "java/lang/invoke/MethodHandle" ∧ yX8_right.cls ≠ "java/lang/invoke/VarHandle" ∧ (parseMethodDescriptor yX8_right.desc).map (fun d => d.parameters.length) = some 2 := by decide +kernel
theorem hcX8_right : Cond.instanceMethod yX8_right ∈ UW ∧ Cond.selects RX8 yX8_right yX8_right ∈ UW ∧ Cond.initialized RX8 ∈ UW ∧ Cond.code yX8_right cX8_right 3 (some .boolean) ∈ UW := ⟨mw_5_168, mp_3_4, mw_1_9, mw_5_169⟩
theorem hdX8_see : yX8_see.cls = RX8 ∧ yX8_see.cls ≠ "java/lang/invoke/MethodHandle" ∧ yX8_see.cls ≠ "java/lang/invoke/VarHandle" ∧ (parseMethodDescriptor yX8_see.desc).map (fun d => d.parameters.length) = some 3 := by decide +kernel
theorem hcX8_see : Cond.instanceMethod yX8_see ∈ UW ∧ Cond.selects RX8 yX8_see yX8_see ∈ UW ∧ Cond.initialized RX8 ∈ UW ∧ Cond.code yX8_see cX8_see 4 (some .int) ∈ UW := ⟨mw_7_42, mw_7_43, mw_1_9, mw_7_44⟩
theorem hdX8_seenAt : yX8_seenAt.cls = RX8 ∧ yX8_seenAt.cls ≠ "java/lang/invoke/MethodHandle" ∧ yX8_seenAt.cls ≠ "java/lang/invoke/VarHandle" ∧ (parseMethodDescriptor yX8_seenAt.desc).map (fun d => d.parameters.length) = some 2 := by decide +kernel
theorem hcX8_seenAt : Cond.instanceMethod yX8_seenAt ∈ UW ∧ Cond.selects RX8 yX8_seenAt yX8_seenAt ∈ UW ∧ Cond.initialized RX8 ∈ UW ∧ Cond.code yX8_seenAt cX8_seenAt 3 (some .int) ∈ UW := ⟨mw_6_58, mp_4_12, mw_1_9, mw_6_59⟩
theorem hdX8_seenMany : yX8_seenMany.cls = RX8 ∧ yX8_seenMany.cls ≠ "java/lang/invoke/MethodHandle" ∧ yX8_seenMany.cls ≠ "java/lang/invoke/VarHandle" ∧ (parseMethodDescriptor yX8_seenMany.desc).map (fun d => d.parameters.length) = some 0 := by decide +kernel
theorem hcX8_seenMany : Cond.instanceMethod yX8_seenMany ∈ UW ∧ Cond.selects RX8 yX8_seenMany yX8_seenMany ∈ UW ∧ Cond.initialized RX8 ∈ UW ∧ Cond.code yX8_seenMany cX8_seenMany 4 (some .int) ∈ UW := ⟨mw_6_54, mp_4_11, mw_1_9, mw_6_55⟩
theorem hdX8_setKind : yX8_setKind.cls = RX8 ∧ yX8_setKind.cls ≠ "java/lang/invoke/MethodHandle" ∧ yX8_setKind.cls ≠ "java/lang/invoke/VarHandle" ∧ (parseMethodDescriptor yX8_setKind.desc).map (fun d => d.parameters.length) = some 2 := by decide +kernel
theorem hcX8_setKind : Cond.instanceMethod yX8_setKind ∈ UW ∧ Cond.selects RX8 yX8_setKind yX8_setKind ∈ UW ∧ Cond.initialized RX8 ∈ UW ∧ Cond.code yX8_setKind cX8_setKind 4 (some .int) ∈ UW := ⟨mw_7_38, mw_7_39, mw_1_9, mw_7_40⟩
theorem hdX8_sign : yX8_sign.cls = RX8 ∧ yX8_sign.cls ≠ "java/lang/invoke/MethodHandle" ∧ yX8_sign.cls ≠ "java/lang/invoke/VarHandle" ∧ (parseMethodDescriptor yX8_sign.desc).map (fun d => d.parameters.length) = some 1 := by decide +kernel
theorem hcX8_sign : Cond.instanceMethod yX8_sign ∈ UW ∧ Cond.selects RX8 yX8_sign yX8_sign ∈ UW ∧ Cond.initialized RX8 ∈ UW ∧ Cond.code yX8_sign cX8_sign 2 (some .boolean) ∈ UW := ⟨mw_5_202, mp_3_10, mw_1_9, mw_5_203⟩
theorem hdX8_state : yX8_state.cls = RX8 ∧ yX8_state.cls ≠ "java/lang/invoke/MethodHandle" ∧ yX8_state.cls ≠ "java/lang/invoke/VarHandle" ∧ (parseMethodDescriptor yX8_state.desc).map (fun d => d.parameters.length) = some 1 := by decide +kernel
theorem hcX8_state : Cond.instanceMethod yX8_state ∈ UW ∧ Cond.selects RX8 yX8_state yX8_state ∈ UW ∧ Cond.initialized RX8 ∈ UW ∧ Cond.code yX8_state cX8_state 2 (some .int) ∈ UW := ⟨mw_6_29, mw_6_30, mw_1_9, mw_6_31⟩
theorem hdX8_suspect : yX8_suspect.cls = RX8 ∧ yX8_suspect.cls ≠ "java/lang/invoke/MethodHandle" ∧ yX8_suspect.cls ≠ "java/lang/invoke/VarHandle" ∧ (parseMethodDescriptor yX8_suspect.desc).map (fun d => d.parameters.length) = some 1 := by decide +kernel
theorem hcX8_suspect : Cond.instanceMethod yX8_suspect ∈ UW ∧ Cond.selects RX8 yX8_suspect yX8_suspect ∈ UW ∧ Cond.initialized RX8 ∈ UW ∧ Cond.code yX8_suspect cX8_suspect 5 (some .int) ∈ UW := ⟨mw_7_14, mw_7_15, mw_1_9, mw_7_16⟩
theorem hdX8_suspects : yX8_suspects.cls = RX8 ∧ yX8_suspects.cls ≠ "java/lang/invoke/MethodHandle" ∧ yX8_suspects.cls ≠ "java/lang/invoke/VarHandle" ∧ (parseMethodDescriptor yX8_suspects.desc).map (fun d => d.parameters.length) = some 0 := by decide +kernel
theorem hcX8_suspects : Cond.instanceMethod yX8_suspects ∈ UW ∧ Cond.selects RX8 yX8_suspects yX8_suspects ∈ UW ∧ Cond.initialized RX8 ∈ UW ∧ Cond.code yX8_suspects cX8_suspects 1 (some .int) ∈ UW := ⟨mw_6_238, mw_6_239, mw_1_9, mw_7_0⟩
theorem hdX8_takes : yX8_takes.cls = RX8 ∧ yX8_takes.cls ≠ "java/lang/invoke/MethodHandle" ∧ yX8_takes.cls ≠ "java/lang/invoke/VarHandle" ∧ (parseMethodDescriptor yX8_takes.desc).map (fun d => d.parameters.length) = some 1 := by decide +kernel
theorem hcX8_takes : Cond.instanceMethod yX8_takes ∈ UW ∧ Cond.selects RX8 yX8_takes yX8_takes ∈ UW ∧ Cond.initialized RX8 ∈ UW ∧ Cond.code yX8_takes cX8_takes 4 (some .boolean) ∈ UW := ⟨mw_5_177, mp_3_6, mw_1_9, mw_5_178⟩
theorem hdX8_tellsApart : yX8_tellsApart.cls = RX8 ∧ yX8_tellsApart.cls ≠ "java/lang/invoke/MethodHandle" ∧ yX8_tellsApart.cls ≠ "java/lang/invoke/VarHandle" ∧ (parseMethodDescriptor yX8_tellsApart.desc).map (fun d => d.parameters.length) = some 3 := by decide +kernel
theorem hcX8_tellsApart : Cond.instanceMethod yX8_tellsApart ∈ UW ∧ Cond.selects RX8 yX8_tellsApart yX8_tellsApart ∈ UW ∧ Cond.initialized RX8 ∈ UW ∧ Cond.code yX8_tellsApart cX8_tellsApart 5 (some .boolean) ∈ UW := ⟨mw_6_159, mw_6_160, mw_1_9, mw_6_161⟩
theorem hdX8_testBetween : yX8_testBetween.cls = RX8 ∧ yX8_testBetween.cls ≠ "java/lang/invoke/MethodHandle" ∧ yX8_testBetween.cls ≠ "java/lang/invoke/VarHandle" ∧ (parseMethodDescriptor yX8_testBetween.desc).map (fun d => d.parameters.length) = some 2 := by decide +kernel
theorem hcX8_testBetween : Cond.instanceMethod yX8_testBetween ∈ UW ∧ Cond.selects RX8 yX8_testBetween yX8_testBetween ∈ UW ∧ Cond.initialized RX8 ∈ UW ∧ Cond.code yX8_testBetween cX8_testBetween 3 (some .int) ∈ UW := ⟨mw_6_195, mw_6_196, mw_1_9, mw_6_197⟩
theorem hdX8_testFor : yX8_testFor.cls = RX8 ∧ yX8_testFor.cls ≠ "java/lang/invoke/MethodHandle" ∧ yX8_testFor.cls ≠ "java/lang/invoke/VarHandle" ∧ (parseMethodDescriptor yX8_testFor.desc).map (fun d => d.parameters.length) = some 1 := by decide +kernel
theorem hcX8_testFor : Cond.instanceMethod yX8_testFor ∈ UW ∧ Cond.selects RX8 yX8_testFor yX8_testFor ∈ UW ∧ Cond.initialized RX8 ∈ UW ∧ Cond.code yX8_testFor cX8_testFor 2 (some .int) ∈ UW := ⟨mw_6_171, mw_6_172, mw_1_9, mw_6_173⟩
theorem hdX8_tests : yX8_tests.cls = RX8 ∧ yX8_tests.cls ≠ "java/lang/invoke/MethodHandle" ∧ yX8_tests.cls ≠ "java/lang/invoke/VarHandle" ∧ (parseMethodDescriptor yX8_tests.desc).map (fun d => d.parameters.length) = some 0 := by decide +kernel
theorem hcX8_tests : Cond.instanceMethod yX8_tests ∈ UW ∧ Cond.selects RX8 yX8_tests yX8_tests ∈ UW ∧ Cond.initialized RX8 ∈ UW ∧ Cond.code yX8_tests cX8_tests 1 (some .int) ∈ UW := ⟨mw_6_50, mp_4_10, mw_1_9, mw_6_51⟩
theorem hdX8_thrown : yX8_thrown.cls = RX8 ∧ yX8_thrown.cls ≠ "java/lang/invoke/MethodHandle" ∧ yX8_thrown.cls ≠ "java/lang/invoke/VarHandle" ∧ (parseMethodDescriptor yX8_thrown.desc).map (fun d => d.parameters.length) = some 0 := by decide +kernel
theorem hcX8_thrown : Cond.instanceMethod yX8_thrown ∈ UW ∧ Cond.selects RX8 yX8_thrown yX8_thrown ∈ UW ∧ Cond.initialized RX8 ∈ UW ∧ Cond.code yX8_thrown cX8_thrown 1 (some .int) ∈ UW := ⟨mw_5_144, mw_5_145, mw_1_9, mw_5_146⟩
theorem hdX8_told : yX8_told.cls = RX8 ∧ yX8_told.cls ≠ "java/lang/invoke/MethodHandle" ∧ yX8_told.cls ≠ "java/lang/invoke/VarHandle" ∧ (parseMethodDescriptor yX8_told.desc).map (fun d => d.parameters.length) = some 1 := by decide +kernel
theorem hcX8_told : Cond.instanceMethod yX8_told ∈ UW ∧ Cond.selects RX8 yX8_told yX8_told ∈ UW ∧ Cond.initialized RX8 ∈ UW ∧ Cond.code yX8_told cX8_told 4 (some .int) ∈ UW := ⟨mw_6_34, mp_4_6, mw_1_9, mw_6_35⟩
theorem hdX8_turned : yX8_turned.cls ≠ "java/lang/invoke/MethodHandle" ∧ yX8_turned.cls ≠ "java/lang/invoke/VarHandle" ∧ (parseMethodDescriptor yX8_turned.desc).map (fun d => d.parameters.length) = some 1 := by decide +kernel
theorem hcX8_turned : Cond.static yX8_turned ∈ UW ∧ Cond.initialized yX8_turned.cls ∈ UW ∧ Cond.code yX8_turned cX8_turned 1 (some .int) ∈ UW := ⟨mw_6_89, mw_1_9, mw_6_90⟩
theorem hdX8_undo : yX8_undo.cls = RX8 ∧ yX8_undo.cls ≠ "java/lang/invoke/MethodHandle" ∧ yX8_undo.cls ≠ "java/lang/invoke/VarHandle" ∧ (parseMethodDescriptor yX8_undo.desc).map (fun d => d.parameters.length) = some 0 := by decide +kernel
theorem hcX8_undo : Cond.instanceMethod yX8_undo ∈ UW ∧ Cond.selects RX8 yX8_undo yX8_undo ∈ UW ∧ Cond.initialized RX8 ∈ UW ∧ Cond.code yX8_undo cX8_undo 1 (some .int) ∈ UW := ⟨mw_7_54, mw_7_55, mw_1_9, mw_7_56⟩
theorem hdX8_usesOf : yX8_usesOf.cls = RX8 ∧ yX8_usesOf.cls ≠ "java/lang/invoke/MethodHandle" ∧ yX8_usesOf.cls ≠ "java/lang/invoke/VarHandle" ∧ (parseMethodDescriptor yX8_usesOf.desc).map (fun d => d.parameters.length) = some 1 := by decide +kernel
theorem hcX8_usesOf : Cond.instanceMethod yX8_usesOf ∈ UW ∧ Cond.selects RX8 yX8_usesOf yX8_usesOf ∈ UW ∧ Cond.initialized RX8 ∈ UW ∧ Cond.code yX8_usesOf cX8_usesOf 5 (some .int) ∈ UW := ⟨mw_6_128, mp_5_11, mw_1_9, mw_6_129⟩
theorem hdX8_value : yX8_value.cls = RX8 ∧ yX8_value.cls ≠ "java/lang/invoke/MethodHandle" ∧ yX8_value.cls ≠ "java/lang/invoke/VarHandle" ∧ (parseMethodDescriptor yX8_value.desc).map (fun d => d.parameters.length) = some 2 := by decide +kernel
theorem hcX8_value : Cond.instanceMethod yX8_value ∈ UW ∧ Cond.selects RX8 yX8_value yX8_value ∈ UW ∧ Cond.initialized RX8 ∈ UW ∧ Cond.code yX8_value cX8_value 3 (some .int) ∈ UW := ⟨mw_6_139, mw_6_140, mw_1_9, mw_6_141⟩
theorem hdX8_wire : yX8_wire.cls = RX8 ∧ yX8_wire.cls ≠ "java/lang/invoke/MethodHandle" ∧ yX8_wire.cls ≠ "java/lang/invoke/VarHandle" ∧ (parseMethodDescriptor yX8_wire.desc).map (fun d => d.parameters.length) = some 2 := by decide +kernel
theorem hcX8_wire : Cond.instanceMethod yX8_wire ∈ UW ∧ Cond.selects RX8 yX8_wire yX8_wire ∈ UW ∧ Cond.initialized RX8 ∈ UW ∧ Cond.code yX8_wire cX8_wire 3 (some .int) ∈ UW := ⟨mw_6_115, mw_6_116, mw_1_9, mw_6_117⟩
theorem hdX8_wires : yX8_wires.cls = RX8 ∧ yX8_wires.cls ≠ "java/lang/invoke/MethodHandle" ∧ yX8_wires.cls ≠ "java/lang/invoke/VarHandle" ∧ (parseMethodDescriptor yX8_wires.desc).map (fun d => d.parameters.length) = some 0 := by decide +kernel
theorem hcX8_wires : Cond.instanceMethod yX8_wires ∈ UW ∧ Cond.selects RX8 yX8_wires yX8_wires ∈ UW ∧ Cond.initialized RX8 ∈ UW ∧ Cond.code yX8_wires cX8_wires 1 (some .int) ∈ UW := ⟨mw_6_26, mp_4_5, mw_1_9, mw_6_27⟩
theorem hdX8_worth : yX8_worth.cls = RX8 ∧ yX8_worth.cls ≠ "java/lang/invoke/MethodHandle" ∧ yX8_worth.cls ≠ "java/lang/invoke/VarHandle" ∧ (parseMethodDescriptor yX8_worth.desc).map (fun d => d.parameters.length) = some 1 := by decide +kernel
theorem hcX8_worth : Cond.instanceMethod yX8_worth ∈ UW ∧ Cond.selects RX8 yX8_worth yX8_worth ∈ UW ∧ Cond.initialized RX8 ∈ UW ∧ Cond.code yX8_worth cX8_worth 2 (some .int) ∈ UW := ⟨mw_6_163, mw_6_164, mw_1_9, mw_6_165⟩
theorem hdX8_worthOf : yX8_worthOf.cls = RX8 ∧ yX8_worthOf.cls ≠ "java/lang/invoke/MethodHandle" ∧ yX8_worthOf.cls ≠ "java/lang/invoke/VarHandle" ∧ (parseMethodDescriptor yX8_worthOf.desc).map (fun d => d.parameters.length) = some 1 := by decide +kernel
theorem hcX8_worthOf : Cond.instanceMethod yX8_worthOf ∈ UW ∧ Cond.selects RX8 yX8_worthOf yX8_worthOf ∈ UW ∧ Cond.initialized RX8 ∈ UW ∧ Cond.code yX8_worthOf cX8_worthOf 4 (some .int) ∈ UW := ⟨mw_6_168, mp_5_15, mw_1_9, mw_6_169⟩
theorem hdJ6_bitCount_0f7a4 : yJ6_bitCount_0f7a4.cls ≠ "java/lang/invoke/MethodHandle" ∧ yJ6_bitCount_0f7a4.cls ≠ "java/lang/invoke/VarHandle" ∧ (parseMethodDescriptor yJ6_bitCount_0f7a4.desc).map (fun d => d.parameters.length) = some 1 := by decide +kernel
theorem hcJ6_bitCount_0f7a4 : Cond.static yJ6_bitCount_0f7a4 ∈ UW ∧ Cond.initialized yJ6_bitCount_0f7a4.cls ∈ UW ∧ Cond.code yJ6_bitCount_0f7a4 cJ6_bitCount_0f7a4 1 (some .int) ∈ UW := ⟨mw_3_1, mw_1_20, mw_3_2⟩
theorem hdJ13_bitCount_95d88 : yJ13_bitCount_95d88.cls ≠ "java/lang/invoke/MethodHandle" ∧ yJ13_bitCount_95d88.cls ≠ "java/lang/invoke/VarHandle" ∧ (parseMethodDescriptor yJ13_bitCount_95d88.desc).map (fun d => d.parameters.length) = some 1 := by decide +kernel
theorem hcJ13_bitCount_95d88 : Cond.static yJ13_bitCount_95d88 ∈ UW ∧ Cond.initialized yJ13_bitCount_95d88.cls ∈ UW ∧ Cond.code yJ13_bitCount_95d88 cJ13_bitCount_95d88 2 (some .int) ∈ UW := ⟨mw_2_135, mw_1_21, mw_2_136⟩
theorem hdJ9_max_7cf53 : yJ9_max_7cf53.cls ≠ "java/lang/invoke/MethodHandle" ∧ yJ9_max_7cf53.cls ≠ "java/lang/invoke/VarHandle" ∧ (parseMethodDescriptor yJ9_max_7cf53.desc).map (fun d => d.parameters.length) = some 2 := by decide +kernel
theorem hcJ9_max_7cf53 : Cond.static yJ9_max_7cf53 ∈ UW ∧ Cond.initialized yJ9_max_7cf53.cls ∈ UW ∧ Cond.code yJ9_max_7cf53 cJ9_max_7cf53 2 (some .int) ∈ UW := ⟨mw_2_209, mw_1_14, mw_2_210⟩
theorem hdJ9_min_7cf53 : yJ9_min_7cf53.cls ≠ "java/lang/invoke/MethodHandle" ∧ yJ9_min_7cf53.cls ≠ "java/lang/invoke/VarHandle" ∧ (parseMethodDescriptor yJ9_min_7cf53.desc).map (fun d => d.parameters.length) = some 2 := by decide +kernel
theorem hcJ9_min_7cf53 : Cond.static yJ9_min_7cf53 ∈ UW ∧ Cond.initialized yJ9_min_7cf53.cls ∈ UW ∧ Cond.code yJ9_min_7cf53 cJ9_min_7cf53 2 (some .int) ∈ UW := ⟨mw_2_128, mw_1_14, mw_2_129⟩
theorem hdJ0_charAt_5068e : yJ0_charAt_5068e.cls = RJ0 ∧ yJ0_charAt_5068e.cls ≠ "java/lang/invoke/MethodHandle" ∧ yJ0_charAt_5068e.cls ≠ "java/lang/invoke/VarHandle" ∧ (parseMethodDescriptor yJ0_charAt_5068e.desc).map (fun d => d.parameters.length) = some 1 := by decide +kernel
theorem hcJ0_charAt_5068e : Cond.instanceMethod yJ0_charAt_5068e ∈ UW ∧ Cond.selects RJ0 yJ0_charAt_5068e yJ0_charAt_5068e ∈ UW ∧ Cond.initialized RJ0 ∈ UW ∧ Cond.code yJ0_charAt_5068e cJ0_charAt_5068e 2 (some .char) ∈ UW := ⟨mw_3_222, mw_3_223, mw_1_15, mw_3_224⟩
theorem hdJ0_checkIndex_df160 : yJ0_checkIndex_df160.cls ≠ "java/lang/invoke/MethodHandle" ∧ yJ0_checkIndex_df160.cls ≠ "java/lang/invoke/VarHandle" ∧ (parseMethodDescriptor yJ0_checkIndex_df160.desc).map (fun d => d.parameters.length) = some 2 := by decide +kernel
theorem hcJ0_checkIndex_df160 : Cond.static yJ0_checkIndex_df160 ∈ UW ∧ Cond.initialized yJ0_checkIndex_df160.cls ∈ UW ∧ Cond.code yJ0_checkIndex_df160 cJ0_checkIndex_df160 2 none ∈ UW := ⟨mw_3_233, mw_1_15, mw_3_234⟩
theorem hdJ0_coder_7d493 : yJ0_coder_7d493.cls = RJ0 ∧ yJ0_coder_7d493.cls ≠ "java/lang/invoke/MethodHandle" ∧ yJ0_coder_7d493.cls ≠ "java/lang/invoke/VarHandle" ∧ (parseMethodDescriptor yJ0_coder_7d493.desc).map (fun d => d.parameters.length) = some 0 := by decide +kernel
theorem hcJ0_coder_7d493 : Cond.instanceMethod yJ0_coder_7d493 ∈ UW ∧ Cond.selects RJ0 yJ0_coder_7d493 yJ0_coder_7d493 ∈ UW ∧ Cond.initialized RJ0 ∈ UW ∧ Cond.code yJ0_coder_7d493 cJ0_coder_7d493 1 (some .byte) ∈ UW := ⟨mw_3_216, mw_3_217, mw_1_15, mw_3_218⟩
theorem hdJ0_isLatin1_aae02 : yJ0_isLatin1_aae02.cls = RJ0 ∧ yJ0_isLatin1_aae02.cls ≠ "java/lang/invoke/MethodHandle" ∧ yJ0_isLatin1_aae02.cls ≠ "java/lang/invoke/VarHandle" ∧ (parseMethodDescriptor yJ0_isLatin1_aae02.desc).map (fun d => d.parameters.length) = some 0 := by decide +kernel
theorem hcJ0_isLatin1_aae02 : Cond.instanceMethod yJ0_isLatin1_aae02 ∈ UW ∧ Cond.selects RJ0 yJ0_isLatin1_aae02 yJ0_isLatin1_aae02 ∈ UW ∧ Cond.initialized RJ0 ∈ UW ∧ Cond.code yJ0_isLatin1_aae02 cJ0_isLatin1_aae02 1 (some .boolean) ∈ UW := ⟨mw_3_226, mw_3_227, mw_1_15, mw_3_228⟩
theorem hdJ0_length_8abf5 : yJ0_length_8abf5.cls = RJ0 ∧ yJ0_length_8abf5.cls ≠ "java/lang/invoke/MethodHandle" ∧ yJ0_length_8abf5.cls ≠ "java/lang/invoke/VarHandle" ∧ (parseMethodDescriptor yJ0_length_8abf5.desc).map (fun d => d.parameters.length) = some 0 := by decide +kernel
theorem hcJ0_length_8abf5 : Cond.instanceMethod yJ0_length_8abf5 ∈ UW ∧ Cond.selects RJ0 yJ0_length_8abf5 yJ0_length_8abf5 ∈ UW ∧ Cond.initialized RJ0 ∈ UW ∧ Cond.code yJ0_length_8abf5 cJ0_length_8abf5 1 (some .int) ∈ UW := ⟨mw_3_212, mw_3_213, mw_1_15, mw_3_214⟩
theorem hdJ1_charAt_3b067 : yJ1_charAt_3b067.cls ≠ "java/lang/invoke/MethodHandle" ∧ yJ1_charAt_3b067.cls ≠ "java/lang/invoke/VarHandle" ∧ (parseMethodDescriptor yJ1_charAt_3b067.desc).map (fun d => d.parameters.length) = some 2 := by decide +kernel
theorem hcJ1_charAt_3b067 : Cond.static yJ1_charAt_3b067 ∈ UW ∧ Cond.initialized yJ1_charAt_3b067.cls ∈ UW ∧ Cond.code yJ1_charAt_3b067 cJ1_charAt_3b067 2 (some .char) ∈ UW := ⟨mw_3_230, mw_1_16, mw_3_231⟩
theorem hdJ3_checkIndex_8e157 : yJ3_checkIndex_8e157.cls ≠ "java/lang/invoke/MethodHandle" ∧ yJ3_checkIndex_8e157.cls ≠ "java/lang/invoke/VarHandle" ∧ (parseMethodDescriptor yJ3_checkIndex_8e157.desc).map (fun d => d.parameters.length) = some 3 := by decide +kernel
theorem hcJ3_checkIndex_8e157 : Cond.static yJ3_checkIndex_8e157 ∈ UW ∧ Cond.initialized yJ3_checkIndex_8e157.cls ∈ UW ∧ Cond.code yJ3_checkIndex_8e157 cJ3_checkIndex_8e157 3 (some .int) ∈ UW := ⟨mw_3_238, mw_1_17, mw_3_239⟩
theorem hinX0 : ∀ w ∈ u_ws RX0 TX0 14, w ∈ UW := by
  intro w hw
  obtain ⟨k, hk, rfl⟩ := List.mem_map.mp hw
  have hk := List.mem_range.mp hk
  match k, hk with
  | 0, _ => exact mw_1_91
  | 1, _ => exact mw_1_93
  | 2, _ => exact mw_1_95
  | 3, _ => exact mw_1_97
  | 4, _ => exact mw_1_99
  | 5, _ => exact mw_1_101
  | 6, _ => exact mw_1_103
  | 7, _ => exact mw_1_105
  | 8, _ => exact mw_1_107
  | 9, _ => exact mw_1_109
  | 10, _ => exact mw_1_111
  | 11, _ => exact mw_1_113
  | 12, _ => exact mw_1_115
  | 13, _ => exact mw_1_117
  | k + 14, h => exact absurd h (by omega)
theorem hinX1 : ∀ w ∈ u_ws RX1 TX1 3, w ∈ UW := by
  intro w hw
  obtain ⟨k, hk, rfl⟩ := List.mem_map.mp hw
  have hk := List.mem_range.mp hk
  match k, hk with
  | 0, _ => exact mw_1_209
  | 1, _ => exact mw_1_211
  | 2, _ => exact mw_1_213
  | k + 3, h => exact absurd h (by omega)
theorem hinX2 : ∀ w ∈ u_ws RX2 TX2 2, w ∈ UW := by
  intro w hw
  obtain ⟨k, hk, rfl⟩ := List.mem_map.mp hw
  have hk := List.mem_range.mp hk
  match k, hk with
  | 0, _ => exact mw_1_232
  | 1, _ => exact mw_1_234
  | k + 2, h => exact absurd h (by omega)
theorem hinX3 : ∀ w ∈ u_ws RX3 TX3 5, w ∈ UW := by
  intro w hw
  obtain ⟨k, hk, rfl⟩ := List.mem_map.mp hw
  have hk := List.mem_range.mp hk
  match k, hk with
  | 0, _ => exact mw_2_7
  | 1, _ => exact mw_2_9
  | 2, _ => exact mw_2_11
  | 3, _ => exact mw_2_13
  | 4, _ => exact mw_2_15
  | k + 5, h => exact absurd h (by omega)
theorem hinX4 : ∀ w ∈ u_ws RX4 TX4 2, w ∈ UW := by
  intro w hw
  obtain ⟨k, hk, rfl⟩ := List.mem_map.mp hw
  have hk := List.mem_range.mp hk
  match k, hk with
  | 0, _ => exact mw_1_155
  | 1, _ => exact mw_1_157
  | k + 2, h => exact absurd h (by omega)
theorem hinX5 : ∀ w ∈ u_ws RX5 TX5 10, w ∈ UW := by
  intro w hw
  obtain ⟨k, hk, rfl⟩ := List.mem_map.mp hw
  have hk := List.mem_range.mp hk
  match k, hk with
  | 0, _ => exact mw_1_173
  | 1, _ => exact mw_1_175
  | 2, _ => exact mw_1_177
  | 3, _ => exact mw_1_179
  | 4, _ => exact mw_1_181
  | 5, _ => exact mw_1_183
  | 6, _ => exact mw_1_185
  | 7, _ => exact mw_1_187
  | 8, _ => exact mw_1_189
  | 9, _ => exact mw_1_191
  | k + 10, h => exact absurd h (by omega)
theorem hinX6 : ∀ w ∈ u_ws RX6 TX6 5, w ∈ UW := by
  intro w hw
  obtain ⟨k, hk, rfl⟩ := List.mem_map.mp hw
  have hk := List.mem_range.mp hk
  match k, hk with
  | 0, _ => exact mw_1_138
  | 1, _ => exact mw_1_140
  | 2, _ => exact mw_1_142
  | 3, _ => exact mw_1_144
  | 4, _ => exact mw_1_146
  | k + 5, h => exact absurd h (by omega)
theorem hinX7 : ∀ w ∈ u_ws RX7 TX7 12, w ∈ UW := by
  intro w hw
  obtain ⟨k, hk, rfl⟩ := List.mem_map.mp hw
  have hk := List.mem_range.mp hk
  match k, hk with
  | 0, _ => exact mw_2_30
  | 1, _ => exact mw_2_32
  | 2, _ => exact mw_2_34
  | 3, _ => exact mw_2_36
  | 4, _ => exact mw_2_38
  | 5, _ => exact mw_2_40
  | 6, _ => exact mw_2_42
  | 7, _ => exact mw_2_44
  | 8, _ => exact mw_2_46
  | 9, _ => exact mw_2_48
  | 10, _ => exact mw_2_50
  | 11, _ => exact mw_2_52
  | k + 12, h => exact absurd h (by omega)
theorem hinX8 : ∀ w ∈ u_ws RX8 TX8 23, w ∈ UW := by
  intro w hw
  obtain ⟨k, hk, rfl⟩ := List.mem_map.mp hw
  have hk := List.mem_range.mp hk
  match k, hk with
  | 0, _ => exact mw_5_95
  | 1, _ => exact mw_5_97
  | 2, _ => exact mw_5_99
  | 3, _ => exact mw_5_101
  | 4, _ => exact mw_5_103
  | 5, _ => exact mw_5_105
  | 6, _ => exact mw_5_107
  | 7, _ => exact mw_5_109
  | 8, _ => exact mw_5_111
  | 9, _ => exact mw_5_113
  | 10, _ => exact mw_5_115
  | 11, _ => exact mw_5_117
  | 12, _ => exact mw_5_119
  | 13, _ => exact mw_5_121
  | 14, _ => exact mw_5_123
  | 15, _ => exact mw_5_125
  | 16, _ => exact mw_5_127
  | 17, _ => exact mw_5_129
  | 18, _ => exact mw_5_131
  | 19, _ => exact mw_5_133
  | 20, _ => exact mw_5_135
  | 21, _ => exact mw_5_137
  | 22, _ => exact mw_5_139
  | k + 23, h => exact absurd h (by omega)
set_option maxRecDepth 20000 in
theorem xa_77 : ∀ w ∈ Bundle.ownAtoms RX7 77 "java/lang/IllegalArgumentException" ["java/lang/RuntimeException", "java/lang/Exception"], w ∈ UW ∨ w ∈ bdT ∨ vx_no w = false := List.forall_mem_cons.mpr ⟨Or.inl mw_1_10, List.forall_mem_cons.mpr ⟨Or.inl mw_3_74, List.forall_mem_cons.mpr ⟨Or.inl mw_3_83, List.forall_mem_cons.mpr ⟨Or.inl mw_3_88, List.forall_mem_cons.mpr ⟨Or.inl mw_3_91, List.forall_mem_cons.mpr ⟨Or.inl mw_3_93, List.forall_mem_cons.mpr ⟨Or.inl mw_3_75, List.forall_mem_cons.mpr ⟨Or.inl mw_3_76, List.forall_mem_cons.mpr ⟨Or.inl mw_1_31, List.forall_mem_cons.mpr ⟨Or.inl mw_1_32, List.forall_mem_cons.mpr ⟨Or.inl mw_3_77, List.forall_mem_cons.mpr ⟨Or.inl mw_3_82, List.forall_mem_cons.mpr ⟨Or.inl mw_3_89, List.forall_mem_cons.mpr ⟨Or.inl mw_3_109, List.forall_mem_cons.mpr ⟨Or.inl mw_3_64, List.forall_mem_cons.mpr ⟨Or.inl mw_3_110, List.forall_mem_cons.mpr ⟨Or.inl mw_3_66, List.forall_mem_cons.mpr ⟨Or.inl mw_3_111, List.forall_mem_cons.mpr ⟨Or.inl mw_3_68, List.forall_mem_cons.mpr ⟨Or.inl mw_3_78, List.forall_mem_cons.mpr ⟨Or.inr (Or.inr rfl), List.forall_mem_cons.mpr ⟨Or.inl mw_3_80, List.forall_mem_cons.mpr ⟨Or.inr (Or.inr rfl), List.forall_mem_cons.mpr ⟨Or.inl mw_3_70, List.forall_mem_cons.mpr ⟨Or.inl mw_3_105, List.forall_mem_cons.mpr ⟨Or.inl mw_3_106, List.forall_mem_cons.mpr ⟨Or.inl mw_3_108, List.forall_mem_cons.mpr ⟨Or.inl mw_3_70, List.forall_mem_cons.mpr ⟨Or.inl mw_3_96, List.forall_mem_cons.mpr ⟨Or.inl mw_3_97, List.forall_mem_cons.mpr ⟨Or.inl mw_3_98, List.forall_mem_cons.mpr ⟨Or.inl mw_3_99, List.forall_mem_cons.mpr ⟨Or.inr (Or.inl (by decide +kernel)), List.forall_mem_cons.mpr ⟨Or.inl mw_3_99, List.forall_mem_cons.mpr ⟨Or.inl mw_3_100, List.forall_mem_cons.mpr ⟨Or.inl mw_3_101, List.forall_mem_cons.mpr ⟨Or.inl mw_3_102, List.forall_mem_cons.mpr ⟨Or.inr (Or.inl (by decide +kernel)), List.forall_mem_cons.mpr ⟨Or.inl mw_3_102, List.forall_mem_cons.mpr ⟨Or.inl mw_3_103, List.forall_mem_cons.mpr ⟨Or.inl mw_3_104, List.forall_mem_cons.mpr ⟨Or.inl mw_3_105, List.forall_mem_cons.mpr ⟨Or.inr (Or.inl (by decide +kernel)), List.forall_mem_cons.mpr ⟨Or.inl mw_3_95, List.forall_mem_cons.mpr ⟨Or.inl mw_3_53, List.forall_mem_cons.mpr ⟨Or.inr (Or.inl (by decide +kernel)), List.forall_mem_cons.mpr ⟨Or.inl mw_3_61, List.forall_mem_cons.mpr ⟨Or.inl mw_3_62, List.forall_mem_cons.mpr ⟨Or.inl mw_3_63, List.forall_mem_cons.mpr ⟨Or.inl mw_3_65, List.forall_mem_cons.mpr ⟨Or.inl mw_3_67, List.forall_mem_cons.mpr ⟨Or.inl mw_3_69, List.forall_mem_cons.mpr ⟨Or.inr (Or.inr rfl), List.forall_mem_cons.mpr ⟨Or.inr (Or.inr rfl), List.forall_mem_cons.mpr ⟨Or.inl mw_3_107, List.forall_mem_cons.mpr ⟨Or.inl mw_3_72, List.forall_mem_cons.mpr ⟨Or.inl mw_3_71, fun _ h => nomatch h⟩⟩⟩⟩⟩⟩⟩⟩⟩⟩⟩⟩⟩⟩⟩⟩⟩⟩⟩⟩⟩⟩⟩⟩⟩⟩⟩⟩⟩⟩⟩⟩⟩⟩⟩⟩⟩⟩⟩⟩⟩⟩⟩⟩⟩⟩⟩⟩⟩⟩⟩⟩⟩⟩⟩⟩⟩
theorem xw_77 : ∀ w ∈ vx_atS RX7 77 "java/lang/IllegalArgumentException" ["java/lang/RuntimeException", "java/lang/Exception"], w ∈ UW ∨ w ∈ bdT := by
  intro w hw
  obtain ⟨h1, h2⟩ := List.mem_filter.mp hw
  rcases xa_77 w h1 with h | h | h
  · exact Or.inl h
  · exact Or.inr h
  · rw [h] at h2; cases h2
theorem xo_77 : ∀ w ∈ Cond.classLink RX7 73 "java/lang/IllegalArgumentException" :: Cond.initialized "java/lang/IllegalArgumentException" :: vx_atS RX7 77 "java/lang/IllegalArgumentException" ["java/lang/RuntimeException", "java/lang/Exception"], vx_ot w = true := by decide +kernel
set_option maxRecDepth 20000 in
theorem xa_269 : ∀ w ∈ Bundle.ownAtoms RX7 269 "java/lang/IndexOutOfBoundsException" ["java/lang/RuntimeException", "java/lang/Exception"], w ∈ UW ∨ w ∈ bdT ∨ vx_no w = false := List.forall_mem_cons.mpr ⟨Or.inl mw_1_10, List.forall_mem_cons.mpr ⟨Or.inl mw_3_74, List.forall_mem_cons.mpr ⟨Or.inl mw_3_83, List.forall_mem_cons.mpr ⟨Or.inl mw_3_88, List.forall_mem_cons.mpr ⟨Or.inl mw_3_91, List.forall_mem_cons.mpr ⟨Or.inl mw_3_93, List.forall_mem_cons.mpr ⟨Or.inl mw_3_75, List.forall_mem_cons.mpr ⟨Or.inl mw_3_76, List.forall_mem_cons.mpr ⟨Or.inl mw_1_31, List.forall_mem_cons.mpr ⟨Or.inl mw_1_32, List.forall_mem_cons.mpr ⟨Or.inl mw_3_77, List.forall_mem_cons.mpr ⟨Or.inl mw_3_82, List.forall_mem_cons.mpr ⟨Or.inl mw_3_89, List.forall_mem_cons.mpr ⟨Or.inl mw_3_109, List.forall_mem_cons.mpr ⟨Or.inl mw_3_64, List.forall_mem_cons.mpr ⟨Or.inl mw_3_110, List.forall_mem_cons.mpr ⟨Or.inl mw_3_66, List.forall_mem_cons.mpr ⟨Or.inl mw_3_111, List.forall_mem_cons.mpr ⟨Or.inl mw_3_68, List.forall_mem_cons.mpr ⟨Or.inl mw_3_78, List.forall_mem_cons.mpr ⟨Or.inr (Or.inr rfl), List.forall_mem_cons.mpr ⟨Or.inl mw_3_80, List.forall_mem_cons.mpr ⟨Or.inr (Or.inr rfl), List.forall_mem_cons.mpr ⟨Or.inl mw_3_70, List.forall_mem_cons.mpr ⟨Or.inl mw_3_105, List.forall_mem_cons.mpr ⟨Or.inl mw_3_106, List.forall_mem_cons.mpr ⟨Or.inl mw_3_108, List.forall_mem_cons.mpr ⟨Or.inl mw_3_70, List.forall_mem_cons.mpr ⟨Or.inl mw_3_144, List.forall_mem_cons.mpr ⟨Or.inl mw_3_145, List.forall_mem_cons.mpr ⟨Or.inl mw_3_146, List.forall_mem_cons.mpr ⟨Or.inl mw_3_99, List.forall_mem_cons.mpr ⟨Or.inr (Or.inl (by decide +kernel)), List.forall_mem_cons.mpr ⟨Or.inl mw_3_99, List.forall_mem_cons.mpr ⟨Or.inl mw_3_100, List.forall_mem_cons.mpr ⟨Or.inl mw_3_101, List.forall_mem_cons.mpr ⟨Or.inl mw_3_102, List.forall_mem_cons.mpr ⟨Or.inr (Or.inl (by decide +kernel)), List.forall_mem_cons.mpr ⟨Or.inl mw_3_102, List.forall_mem_cons.mpr ⟨Or.inl mw_3_103, List.forall_mem_cons.mpr ⟨Or.inl mw_3_104, List.forall_mem_cons.mpr ⟨Or.inl mw_3_105, List.forall_mem_cons.mpr ⟨Or.inr (Or.inl (by decide +kernel)), List.forall_mem_cons.mpr ⟨Or.inl mw_3_143, List.forall_mem_cons.mpr ⟨Or.inl mw_3_134, List.forall_mem_cons.mpr ⟨Or.inr (Or.inl (by decide +kernel)), List.forall_mem_cons.mpr ⟨Or.inl mw_3_136, List.forall_mem_cons.mpr ⟨Or.inl mw_3_86, List.forall_mem_cons.mpr ⟨Or.inl mw_3_137, List.forall_mem_cons.mpr ⟨Or.inl mw_3_138, List.forall_mem_cons.mpr ⟨Or.inl mw_3_139, List.forall_mem_cons.mpr ⟨Or.inl mw_3_140, List.forall_mem_cons.mpr ⟨Or.inr (Or.inr rfl), List.forall_mem_cons.mpr ⟨Or.inr (Or.inr rfl), List.forall_mem_cons.mpr ⟨Or.inl mw_3_107, List.forall_mem_cons.mpr ⟨Or.inl mw_3_72, List.forall_mem_cons.mpr ⟨Or.inl mw_3_141, fun _ h => nomatch h⟩⟩⟩⟩⟩⟩⟩⟩⟩⟩⟩⟩⟩⟩⟩⟩⟩⟩⟩⟩⟩⟩⟩⟩⟩⟩⟩⟩⟩⟩⟩⟩⟩⟩⟩⟩⟩⟩⟩⟩⟩⟩⟩⟩⟩⟩⟩⟩⟩⟩⟩⟩⟩⟩⟩⟩⟩
theorem xw_269 : ∀ w ∈ vx_atS RX7 269 "java/lang/IndexOutOfBoundsException" ["java/lang/RuntimeException", "java/lang/Exception"], w ∈ UW ∨ w ∈ bdT := by
  intro w hw
  obtain ⟨h1, h2⟩ := List.mem_filter.mp hw
  rcases xa_269 w h1 with h | h | h
  · exact Or.inl h
  · exact Or.inr h
  · rw [h] at h2; cases h2
theorem xo_269 : ∀ w ∈ Cond.classLink RX7 265 "java/lang/IndexOutOfBoundsException" :: Cond.initialized "java/lang/IndexOutOfBoundsException" :: vx_atS RX7 269 "java/lang/IndexOutOfBoundsException" ["java/lang/RuntimeException", "java/lang/Exception"], vx_ot w = true := by decide +kernel
set_option maxRecDepth 20000 in
theorem xa_247 : ∀ w ∈ Bundle.ownAtoms RX7 247 "java/lang/IllegalStateException" ["java/lang/RuntimeException", "java/lang/Exception"], w ∈ UW ∨ w ∈ bdT ∨ vx_no w = false := List.forall_mem_cons.mpr ⟨Or.inl mw_1_10, List.forall_mem_cons.mpr ⟨Or.inl mw_3_74, List.forall_mem_cons.mpr ⟨Or.inl mw_3_83, List.forall_mem_cons.mpr ⟨Or.inl mw_3_88, List.forall_mem_cons.mpr ⟨Or.inl mw_3_91, List.forall_mem_cons.mpr ⟨Or.inl mw_3_93, List.forall_mem_cons.mpr ⟨Or.inl mw_3_75, List.forall_mem_cons.mpr ⟨Or.inl mw_3_76, List.forall_mem_cons.mpr ⟨Or.inl mw_1_31, List.forall_mem_cons.mpr ⟨Or.inl mw_1_32, List.forall_mem_cons.mpr ⟨Or.inl mw_3_77, List.forall_mem_cons.mpr ⟨Or.inl mw_3_82, List.forall_mem_cons.mpr ⟨Or.inl mw_3_89, List.forall_mem_cons.mpr ⟨Or.inl mw_3_109, List.forall_mem_cons.mpr ⟨Or.inl mw_3_64, List.forall_mem_cons.mpr ⟨Or.inl mw_3_110, List.forall_mem_cons.mpr ⟨Or.inl mw_3_66, List.forall_mem_cons.mpr ⟨Or.inl mw_3_111, List.forall_mem_cons.mpr ⟨Or.inl mw_3_68, List.forall_mem_cons.mpr ⟨Or.inl mw_3_78, List.forall_mem_cons.mpr ⟨Or.inr (Or.inr rfl), List.forall_mem_cons.mpr ⟨Or.inl mw_3_80, List.forall_mem_cons.mpr ⟨Or.inr (Or.inr rfl), List.forall_mem_cons.mpr ⟨Or.inl mw_3_70, List.forall_mem_cons.mpr ⟨Or.inl mw_3_105, List.forall_mem_cons.mpr ⟨Or.inl mw_3_106, List.forall_mem_cons.mpr ⟨Or.inl mw_3_108, List.forall_mem_cons.mpr ⟨Or.inl mw_3_70, List.forall_mem_cons.mpr ⟨Or.inl mw_5_15, List.forall_mem_cons.mpr ⟨Or.inl mw_5_16, List.forall_mem_cons.mpr ⟨Or.inl mw_5_17, List.forall_mem_cons.mpr ⟨Or.inl mw_3_99, List.forall_mem_cons.mpr ⟨Or.inr (Or.inl (by decide +kernel)), List.forall_mem_cons.mpr ⟨Or.inl mw_3_99, List.forall_mem_cons.mpr ⟨Or.inl mw_3_100, List.forall_mem_cons.mpr ⟨Or.inl mw_3_101, List.forall_mem_cons.mpr ⟨Or.inl mw_3_102, List.forall_mem_cons.mpr ⟨Or.inr (Or.inl (by decide +kernel)), List.forall_mem_cons.mpr ⟨Or.inl mw_3_102, List.forall_mem_cons.mpr ⟨Or.inl mw_3_103, List.forall_mem_cons.mpr ⟨Or.inl mw_3_104, List.forall_mem_cons.mpr ⟨Or.inl mw_3_105, List.forall_mem_cons.mpr ⟨Or.inr (Or.inl (by decide +kernel)), List.forall_mem_cons.mpr ⟨Or.inl mw_5_14, List.forall_mem_cons.mpr ⟨Or.inl mw_5_5, List.forall_mem_cons.mpr ⟨Or.inr (Or.inl (by decide +kernel)), List.forall_mem_cons.mpr ⟨Or.inl mw_5_7, List.forall_mem_cons.mpr ⟨Or.inl mw_3_85, List.forall_mem_cons.mpr ⟨Or.inl mw_5_8, List.forall_mem_cons.mpr ⟨Or.inl mw_5_9, List.forall_mem_cons.mpr ⟨Or.inl mw_5_10, List.forall_mem_cons.mpr ⟨Or.inl mw_5_11, List.forall_mem_cons.mpr ⟨Or.inr (Or.inr rfl), List.forall_mem_cons.mpr ⟨Or.inr (Or.inr rfl), List.forall_mem_cons.mpr ⟨Or.inl mw_3_107, List.forall_mem_cons.mpr ⟨Or.inl mw_3_72, List.forall_mem_cons.mpr ⟨Or.inl mw_5_12, fun _ h => nomatch h⟩⟩⟩⟩⟩⟩⟩⟩⟩⟩⟩⟩⟩⟩⟩⟩⟩⟩⟩⟩⟩⟩⟩⟩⟩⟩⟩⟩⟩⟩⟩⟩⟩⟩⟩⟩⟩⟩⟩⟩⟩⟩⟩⟩⟩⟩⟩⟩⟩⟩⟩⟩⟩⟩⟩⟩⟩
theorem xw_247 : ∀ w ∈ vx_atS RX7 247 "java/lang/IllegalStateException" ["java/lang/RuntimeException", "java/lang/Exception"], w ∈ UW ∨ w ∈ bdT := by
  intro w hw
  obtain ⟨h1, h2⟩ := List.mem_filter.mp hw
  rcases xa_247 w h1 with h | h | h
  · exact Or.inl h
  · exact Or.inr h
  · rw [h] at h2; cases h2
theorem xo_247 : ∀ w ∈ Cond.classLink RX7 243 "java/lang/IllegalStateException" :: Cond.initialized "java/lang/IllegalStateException" :: vx_atS RX7 247 "java/lang/IllegalStateException" ["java/lang/RuntimeException", "java/lang/Exception"], vx_ot w = true := by decide +kernel
section
variable {p : Program} {l : Launch} {e : Env} {R : Room} {s : State} {m : MethodId} {args : Array Value} {below : List Frame} {meth : Method} {c : Code} {H : Heap} {locs : List Loc} {cells slots : Nat} {Q : State → Prop} {g : Gx} {A : Nat → Prop}
theorem k_ldcSw {cc : ByteArray} (hexec : p.tables.exec = Jvm.exec) (hb : c.code = cc) {own tx : String} {index q : Nat} (hown : s.vm.findClass own = some m.cls) (hZ : vk_R own index tx q s) {pc : Nat} {ls : Array Slot} {rest : List Value} (hdg : decode cc pc = .ok (.ldc_w index, 3))
    (k : W p l e R s m args below meth c H locs cells slots Q (F0 m (pc + 3) ls (.ref q :: rest))) : W p l e R s m args below meth c H locs cells slots Q (F0 m pc ls rest) := by
  intro T hT X
  obtain ⟨t, a1, b1⟩ := k T hT X
  exact ⟨t, X.ldcStringW hexec hown (text := tx) (a := q) hZ.1 hZ.2 (g := F0 m pc ls rest) rfl (by rw [hb]; exact hdg) t a1, b1⟩
theorem k_free {ws : va_W} (hD : va_D A ws) (hS : va_S A s.heap H locs) (hA : ∀ q, s.heap.size ≤ q → A q) : ∀ q, va_A ws H.size q → A q := by
  intro q h
  rcases h with ⟨k, e, h⟩ | h
  · exact hD.2 k _ h
  · exact hA q (Nat.le_trans hS.1 h)
theorem k_blind {av : List Value} {w0 : va_W} {sz : Nat} : FrameBlind (va_Pc av (wB g w0 sz)) := fun a U g9 mk q => by
  obtain ⟨q0, q1, qP, qK, qD, qG⟩ := q
  exact ⟨q0, q1, qP, va_K.moved (u := U) (U := U.calling g9 mk a) (Vm.Alike.refl U.vm) qK, qD, BG.same (u := U) (U := U.calling g9 mk a) rfl qG⟩
theorem k_iret {cc : ByteArray} {r x : Int32} {w1 : va_W} (hx : p.tables.exec = Jvm.exec) (hb : c.code = cc) (hr : meth.sig.returnType = some .int) (hlocks : meth.locks = false) (hK : va_K g.1 vwCl (tyL g) s) (hP : va_P g.1 vwCl w1 H) (hD : va_D A w1) (hS : va_S A s.heap H locs) (hxr : x = r) {pc : Nat} {ls : Array Slot} (hdg : decode cc pc = .ok (.ireturn, 1)) : W p l e R s m args below meth c H locs cells slots (MQ below (qI g A w1 r) args s cells slots A) (F0 m pc ls [.int x]) :=
  W.iret hx hb hr (fun t ht hW => ⟨⟨x, (), rfl, hxr, by rw [ht]; exact hP, va_K.moved hW.alike hK, hD⟩, hS.F ht⟩) hS.2.2 hdg (hlocks := hlocks)
theorem k_zret {cc : ByteArray} {r x : Int32} {w1 : va_W} (hx : p.tables.exec = Jvm.exec) (hb : c.code = cc) (hr : meth.sig.returnType = some .boolean) (hlocks : meth.locks = false) (hK : va_K g.1 vwCl (tyL g) s) (hP : va_P g.1 vwCl w1 H) (hD : va_D A w1) (hS : va_S A s.heap H locs) (hxr : x = r) (h01 : x = 0 ∨ x = 1) {pc : Nat} {ls : Array Slot} (hdg : decode cc pc = .ok (.ireturn, 1)) : W p l e R s m args below meth c H locs cells slots (MQ below (qI g A w1 r) args s cells slots A) (F0 m pc ls [.int x]) :=
  W.zret hx hb hr (by rcases h01 with h | h <;> rw [h] <;> rfl) (fun t ht hW => ⟨⟨x, (), rfl, hxr, by rw [ht]; exact hP, va_K.moved hW.alike hK, hD⟩, hS.F ht⟩) hS.2.2 hdg (hlocks := hlocks)
theorem k_nret {cc : ByteArray} {r x : Int32} {w1 : va_W} {ty : FieldType} (hx : p.tables.exec = Jvm.exec) (hb : c.code = cc) (hr : meth.sig.returnType = some ty) (hlocks : meth.locks = false) (hK : va_K g.1 vwCl (tyL g) s) (hP : va_P g.1 vwCl w1 H) (hD : va_D A w1) (hS : va_S A s.heap H locs) (hxr : x = r) (hn : narrow ty (.int x) = .int x) {pc : Nat} {ls : Array Slot} (hdg : decode cc pc = .ok (.ireturn, 1)) : W p l e R s m args below meth c H locs cells slots (MQ below (qI g A w1 r) args s cells slots A) (F0 m pc ls [.int x]) :=
  W.zret hx hb hr hn (fun t ht hW => ⟨⟨x, (), rfl, hxr, by rw [ht]; exact hP, va_K.moved hW.alike hK, hD⟩, hS.F ht⟩) hS.2.2 hdg (hlocks := hlocks)
theorem k_lret {cc : ByteArray} {r x : Int64} {w1 : va_W} (hx : p.tables.exec = Jvm.exec) (hb : c.code = cc) (hr : meth.sig.returnType = some .long) (hlocks : meth.locks = false) (hK : va_K g.1 vwCl (tyL g) s) (hP : va_P g.1 vwCl w1 H) (hD : va_D A w1) (hS : va_S A s.heap H locs) (hxr : x = r) {pc : Nat} {ls : Array Slot} (hdg : decode cc pc = .ok (.lreturn, 1)) : W p l e R s m args below meth c H locs cells slots (MQ below (qJ g A w1 r) args s cells slots A) (F0 m pc ls [.long x]) :=
  W.lret hx hb hr (fun t ht hW => ⟨⟨x, (), rfl, hxr, by rw [ht]; exact hP, va_K.moved hW.alike hK, hD⟩, hS.F ht⟩) hS.2.2 hdg (hlocks := hlocks)
theorem k_dret {cc : ByteArray} {r x : UInt64} {w1 : va_W} (hx : p.tables.exec = Jvm.exec) (hb : c.code = cc) (hr : meth.sig.returnType = some .double) (hlocks : meth.locks = false) (hK : va_K g.1 vwCl (tyL g) s) (hP : va_P g.1 vwCl w1 H) (hD : va_D A w1) (hS : va_S A s.heap H locs) (hxr : x = r) {pc : Nat} {ls : Array Slot} (hdg : decode cc pc = .ok (.dreturn, 1)) : W p l e R s m args below meth c H locs cells slots (MQ below (qD g A w1 r) args s cells slots A) (F0 m pc ls [.double x]) :=
  W.dret hx hb hr (fun t ht hW => ⟨⟨x, (), rfl, hxr, by rw [ht]; exact hP, va_K.moved hW.alike hK, hD⟩, hS.F ht⟩) hS.2.2 hdg (hlocks := hlocks)
theorem k_vret {cc : ByteArray} {w1 : va_W} (hx : p.tables.exec = Jvm.exec) (hb : c.code = cc) (hr : meth.sig.returnType = none) (hlocks : meth.locks = false) (hK : va_K g.1 vwCl (tyL g) s) (hP : va_P g.1 vwCl w1 H) (hD : va_D A w1) (hS : va_S A s.heap H locs) {pc : Nat} {ls : Array Slot} (hdg : decode cc pc = .ok (.return_, 1)) : W p l e R s m args below meth c H locs cells slots (MQ below (qV g A w1) args s cells slots A) (F0 m pc ls []) :=
  W.vret hx hb hr (fun t ht hW => ⟨⟨(), rfl, trivial, by rw [ht]; exact hP, va_K.moved hW.alike hK, hD⟩, hS.F ht⟩) hS.2.2 hdg (hlocks := hlocks)
theorem k_lt {ws : va_W} (hP : va_P g.1 vwCl ws H) {k : Nat} {q : Nat × va_E} (hq : ws[k]? = some q) : q.1 < H.size := vx_lt hP hq
theorem k_fm {ws wc : va_W} {is : List Nat} (h : is.map (fun i => ws[i]?) = wc.map some) : is.filterMap (fun i => ws[i]?) = wc := by
  induction is generalizing wc with
  | nil =>
    cases wc with
    | nil => rfl
    | cons a t => simp at h
  | cons i is ih =>
    cases wc with
    | nil => simp at h
    | cons a t =>
      simp only [List.map_cons, List.cons.injEq] at h
      rw [List.filterMap_cons, h.1]
      exact congrArg (a :: ·) (ih h.2)
theorem k_dsub {A0 : Nat → Prop} {ws wc : va_W} (hD : va_D A0 ws) (is : List Nat) (h : is.map (fun i => ws[i]?) = wc.map some) (hn : va_nd is = true) : va_D (fun _ => True) wc := (hD.sub is hn h).weaken (fun _ _ _ _ => trivial)
theorem k_siN {cc : ByteArray} {nL : Nat} {Ts : List Cond} {own : String} (S : CallFix p m c cc nL s args Ts own) {ws : va_W} (hK : va_K g.1 vwCl (tyL g) s) (hP : va_P g.1 vwCl ws H) (hD : va_D A ws) (hS : va_S A s.heap H locs) (hA : ∀ q, s.heap.size ≤ q → A q) (hG : BG g A s s.heap) {y : MethodName} {wy : List Cond} {rm : Room} {As : List Value} {r : Int32} {mc ms : Nat} (hM : CtI l y wy rm g As [] [] r mc ms) {index : Nat} {bytes : ByteArray} {maxL : Nat} {ret : Option FieldType} {n : Nat} {host : String} (cw : va_CN R s args own index y host bytes maxL ret wy rm mc ms n ∧ (Cond.static y).before args s = true ∧ True) {pc : Nat} {ls : Array Slot} {st rest : List Value} (hst : st = As.reverse ++ rest) (hn : As.length = n) (hsz : ls.size = nL) (hW : (rest.map fun v => v.category).sum ≤ 8) (hdg : decode cc pc = .ok (.invokestatic index, 3)) {k1 n1 : Nat} (hk : cells + mc = k1) (hns : slots + ms = n1) (hf : k1 ≤ R.cells ∧ n1 ≤ R.slots) (kk : ∀ (H1 : Heap) (locs1 : List Loc), va_P g.1 vwCl ws H1 → va_D A ws → va_S A s.heap H1 locs1 → W p l e R s m args below meth c H1 locs1 k1 n1 Q (F0 m (pc + 3) ls (.int r :: rest))) : W p l e R s m args below meth c H locs cells slots Q (F0 m pc ls st) := by
  subst hst; subst hk; subst hns
  have hFc : ∀ q, va_A [] H.size q → A q := va_free hD hS hA [] rfl
  refine va_calli (va_runSN (As := As) (rest := rest) S (hM H.size) cw ⟨k_blind, fun U hU hW => ⟨rfl, by rw [hU], (fun k q h => by simp at h), va_K.moved hW.alike hK, ⟨fun i j p q h => by simp at h, fun k q h => by simp at h⟩, by rw [hU]; exact BG.warm hW ((hG.kept hS.2.1).narrow hFc)⟩⟩ rfl hn hsz rfl (lv_room hW) hdg hf) hS (fun q _ h => hFc q h) hFc (fun r1 u t H1 locs1 ht hvm hw hB hz1 hk1 hS1 => ?_)
  obtain ⟨hP1, _, hD1⟩ := hB
  rw [ht] at hP1
  subst hw
  refine kk H1 locs1 (hP.kept (fun k q hq => hk1 q.1 (k_lt hP hq) ?_)) hD hS1
  intro h9
  rcases h9 with ⟨k9, e9, h9⟩ | h9
  · simp at h9
  · exact absurd (k_lt hP hq) (Nat.not_lt.mpr h9)
theorem k_viW {cc : ByteArray} {nL : Nat} {Ts : List Cond} {own : String} (S : CallFix p m c cc nL s args Ts own) {ws w1 : va_W} (hK : va_K g.1 vwCl (tyL g) s) (hP : va_P g.1 vwCl ws H) (hD : va_D A ws) (hS : va_S A s.heap H locs) (hA : ∀ q, s.heap.size ≤ q → A q) (hG : BG g A s s.heap) {y : MethodName} {wy : List Cond} {rm : Room} {As : List Value} {a : Nat} {r : Int32} {mc ms : Nat} (hM : CtI l y wy rm g (.ref a :: As) ws w1 r mc ms) {C : String} {index : Nat} {bytes : ByteArray} {maxL : Nat} {ret : Option FieldType} {n : Nat} (cw : CallW R s args own C index y bytes maxL ret wy rm mc ms n) {q0 ci : Nat} {fs : List Value} {q : vw_C} (hc : vwCl[ci]? = some q) (he : ws[q0]? = some (a, .inr (ci, fs))) (hq : q.1 = C) {pc : Nat} {ls : Array Slot} {st rest : List Value} (hst : st = As.reverse ++ .ref a :: rest) (hn : As.length = n) (hsz : ls.size = nL) (hW : (rest.map fun v => v.category).sum ≤ 8) (hdg : decode cc pc = .ok (.invokevirtual index, 3)) {k1 n1 : Nat} (hk : cells + mc = k1) (hns : slots + ms = n1) (hf : k1 ≤ R.cells ∧ n1 ≤ R.slots) (kk : ∀ (H1 : Heap) (locs1 : List Loc), va_P g.1 vwCl w1 H1 → va_D A w1 → va_S A s.heap H1 locs1 → W p l e R s m args below meth c H1 locs1 k1 n1 Q (F0 m (pc + 3) ls (.int r :: rest))) : W p l e R s m args below meth c H locs cells slots Q (F0 m pc ls st) := by
  subst hst; subst hk; subst hns
  subst hq
  have hFc := k_free hD hS hA
  refine va_calli (va_runV (As := As) (rest := rest) S (hM H.size) cw ⟨k_blind, va_recv hK hP hc he, fun U hU hW => ⟨rfl, by rw [hU], by rw [hU]; exact hP, va_K.moved hW.alike hK, hD.weaken (fun _ _ _ _ => trivial), by rw [hU]; exact BG.warm hW ((hG.kept hS.2.1).narrow hFc)⟩⟩ rfl hn hsz rfl (lv_room hW) hdg hf) hS (fun q _ h => hFc q h) hFc (fun r1 u t H1 locs1 ht hvm hw hB hz1 hk1 hS1 => ?_)
  obtain ⟨hP1, _, hD1⟩ := hB
  rw [ht] at hP1
  subst hw
  exact kk H1 locs1 hP1 (hD1.weaken (fun _ _ _ h => hFc _ h)) hS1
theorem k_viP {cc : ByteArray} {nL : Nat} {Ts : List Cond} {own : String} (S : CallFix p m c cc nL s args Ts own) {ws wc wr w1 w2 : va_W} (hK : va_K g.1 vwCl (tyL g) s) (hP : va_P g.1 vwCl ws H) (hD : va_D A ws) (hS : va_S A s.heap H locs) (hA : ∀ q, s.heap.size ≤ q → A q) (hG : BG g A s s.heap) {y : MethodName} {wy : List Cond} {rm : Room} {As : List Value} {a : Nat} {r : Int32} {mc ms : Nat} (hM : CtI l y wy rm g (.ref a :: As) wc w1 r mc ms) {C : String} {index : Nat} {bytes : ByteArray} {maxL : Nat} {ret : Option FieldType} {n : Nat} (cw : CallW R s args own C index y bytes maxL ret wy rm mc ms n) {q0 ci : Nat} {fs : List Value} {q : vw_C} (hc : vwCl[ci]? = some q) (he : ws[q0]? = some (a, .inr (ci, fs))) (hq : q.1 = C) (isC isR isP : List Nat) (hC : isC.map (fun i => ws[i]?) = wc.map some) (hR : isR.map (fun i => ws[i]?) = wr.map some) (hnC : va_nd isC = true) (hn1 : va_nd isR = true) (hdis : ∀ i ∈ isR, i ∉ isC) (hp1 : isP.filterMap (fun i => (wr ++ w1)[i]?) = w2) (hp2 : isP.map (fun i => (wr ++ w1)[i]?) = w2.map some) (hn2 : va_nd isP = true) {pc : Nat} {ls : Array Slot} {st rest : List Value} (hst : st = As.reverse ++ .ref a :: rest) (hn : As.length = n) (hsz : ls.size = nL) (hW : (rest.map fun v => v.category).sum ≤ 8) (hdg : decode cc pc = .ok (.invokevirtual index, 3)) {k1 n1 : Nat} (hk : cells + mc = k1) (hns : slots + ms = n1) (hf : k1 ≤ R.cells ∧ n1 ≤ R.slots) (kk : ∀ (H1 : Heap) (locs1 : List Loc), va_P g.1 vwCl w2 H1 → va_D A w2 → va_S A s.heap H1 locs1 → W p l e R s m args below meth c H1 locs1 k1 n1 Q (F0 m (pc + 3) ls (.int r :: rest))) : W p l e R s m args below meth c H locs cells slots Q (F0 m pc ls st) := by
  subst hst; subst hk; subst hns
  subst hq
  have hFc : ∀ q, va_A wc H.size q → A q := va_free hD hS hA isC hC
  have hPc : va_P g.1 vwCl wc H := hP.sub isC (k_fm hC)
  have hDc : va_D (fun _ => True) wc := k_dsub hD isC hC hnC
  refine va_calli (va_runV (As := As) (rest := rest) S (hM H.size) cw ⟨k_blind, va_recv hK hP hc he, fun U hU hW => ⟨rfl, by rw [hU], by rw [hU]; exact hPc, va_K.moved hW.alike hK, hDc, by rw [hU]; exact BG.warm hW ((hG.kept hS.2.1).narrow hFc)⟩⟩ rfl hn hsz rfl (lv_room hW) hdg hf) hS (fun q _ h => hFc q h) hFc (fun r1 u t H1 locs1 ht hvm hw hB hz1 hk1 hS1 => ?_)
  obtain ⟨hP1, _, hD1⟩ := hB
  rw [ht] at hP1
  subst hw
  obtain ⟨hP2, hD2⟩ := va_join hP hD isC isR hC hR hn1 hdis hk1 hFc hP1 hD1
  exact kk H1 locs1 (hP2.sub isP hp1) (hD2.sub isP hn2 hp2) hS1
theorem k_viS {cc : ByteArray} {nL : Nat} {Ts : List Cond} {own : String} (S : CallFix p m c cc nL s args Ts own) {ws : va_W} (hK : va_K g.1 vwCl (tyL g) s) (hP : va_P g.1 vwCl ws H) (hD : va_D A ws) (hS : va_S A s.heap H locs) (hA : ∀ q, s.heap.size ≤ q → A q) (hG : BG g A s s.heap) {y : MethodName} {wy : List Cond} {rm : Room} {As : List Value} {a : Nat} {r : Int32} {mc ms : Nat} (hM : CtI l y wy rm g (.ref a :: As) [] [] r mc ms) {C : String} {index : Nat} {bytes : ByteArray} {maxL : Nat} {ret : Option FieldType} {n : Nat} (cw : CallW R s args own C index y bytes maxL ret wy rm mc ms n) (hrc : ∃ cellB : Cell, H[a]? = some cellB ∧ cellB.vm.isStatics = false ∧ s.vm.findClass C = some cellB.cls) {pc : Nat} {ls : Array Slot} {st rest : List Value} (hst : st = As.reverse ++ .ref a :: rest) (hn : As.length = n) (hsz : ls.size = nL) (hW : (rest.map fun v => v.category).sum ≤ 8) (hdg : decode cc pc = .ok (.invokevirtual index, 3)) {k1 n1 : Nat} (hk : cells + mc = k1) (hns : slots + ms = n1) (hf : k1 ≤ R.cells ∧ n1 ≤ R.slots) (kk : ∀ (H1 : Heap) (locs1 : List Loc), va_P g.1 vwCl ws H1 → va_D A ws → va_S A s.heap H1 locs1 → W p l e R s m args below meth c H1 locs1 k1 n1 Q (F0 m (pc + 3) ls (.int r :: rest))) : W p l e R s m args below meth c H locs cells slots Q (F0 m pc ls st) := by
  subst hst; subst hk; subst hns
  have hFc : ∀ q, va_A [] H.size q → A q := va_free hD hS hA [] rfl
  refine va_calli (va_runV (As := As) (rest := rest) S (hM H.size) cw ⟨k_blind, hrc, fun U hU hW => ⟨rfl, by rw [hU], (fun k q h => by simp at h), va_K.moved hW.alike hK, ⟨fun i j p q h => by simp at h, fun k q h => by simp at h⟩, by rw [hU]; exact BG.warm hW ((hG.kept hS.2.1).narrow hFc)⟩⟩ rfl hn hsz rfl (lv_room hW) hdg hf) hS (fun q _ h => hFc q h) hFc (fun r1 u t H1 locs1 ht hvm hw hB hz1 hk1 hS1 => ?_)
  obtain ⟨hP1, _, hD1⟩ := hB
  rw [ht] at hP1
  subst hw
  refine kk H1 locs1 (hP.kept (fun k q hq => hk1 q.1 (k_lt hP hq) ?_)) hD hS1
  intro h9
  rcases h9 with ⟨k9, e9, h9⟩ | h9
  · simp at h9
  · exact absurd (k_lt hP hq) (Nat.not_lt.mpr h9)
theorem kx_viW {cc : ByteArray} {nL : Nat} {Ts : List Cond} {own : String} (S : CallFix p m c cc nL s args Ts own) {ws w1 : va_W} (hK : va_K g.1 vwCl (tyL g) s) (hP : va_P g.1 vwCl ws H) (hD : va_D A ws) (hS : va_S A s.heap H locs) (hA : ∀ q, s.heap.size ≤ q → A q) (hG : BG g A s s.heap) {y : MethodName} {wy : List Cond} {rm : Room} {As : List Value} {a : Nat} {E : String} {mc ms : Nat} (hM : CtXI l y wy rm g (.ref a :: As) ws w1 E mc ms) {C : String} {index : Nat} {bytes : ByteArray} {maxL : Nat} {ret : Option FieldType} {n : Nat} (cw : CallW R s args own C index y bytes maxL ret wy rm mc ms n) {q0 ci : Nat} {fs : List Value} {q : vw_C} (hc : vwCl[ci]? = some q) (he : ws[q0]? = some (a, .inr (ci, fs))) (hq : q.1 = C) {pc : Nat} {ls : Array Slot} {st rest : List Value} (hst : st = As.reverse ++ .ref a :: rest) (hn : As.length = n) (hsz : ls.size = nL) (hW : (rest.map fun v => v.category).sum ≤ 8) (hdg : decode cc pc = .ok (.invokevirtual index, 3)) (hf : cells + mc ≤ R.cells ∧ slots + ms ≤ R.slots) {mc0 ms0 : Nat} (hm : cells + mc ≤ mc0 ∧ slots + ms ≤ ms0) (hT : ∀ x ∈ c.exceptionTable.toList, False) (hlocks : meth.locks = false) {Qc : Array Value → State → Outcome → State → Prop} : W p l e R s m args below meth c H locs cells slots (vx_MQ below Qc (xE g A w1 E) args s mc0 ms0 A) (F0 m pc ls st) := by
  subst hst
  subst hq
  have hFc := k_free hD hS hA
  refine vx_calli (vx_runV (As := As) (rest := rest) S (hM H.size) cw ⟨k_blind, va_recv hK hP hc he, fun U hU hW => ⟨rfl, by rw [hU], by rw [hU]; exact hP, va_K.moved hW.alike hK, hD.weaken (fun _ _ _ _ => trivial), by rw [hU]; exact BG.warm hW ((hG.kept hS.2.1).narrow hFc)⟩⟩ rfl hn hsz rfl (lv_room hW) hdg hf) hS (fun q _ h => hFc q h) hFc (fun q _ h => hFc q h) (fun E1 ce q9 u t H1 locs1 ht hvm hw hB hz1 hk1 hS1 g1 g2 g3 => ?_) (fun r1 u t H1 locs1 ht hvm hw hB hz1 hk1 hS1 => hw.elim)
  obtain ⟨hE, hP1, _, hD1⟩ := hB
  rw [ht] at hP1
  exact vx_outP S.2.2.2.1 hlocks (fun z hz => (hT z hz).elim) g1 g2 g3 (fun t2 ht2 hv2 => ⟨(), trivial, ⟨hE, by rw [ht2]; exact hP1, va_K.moved hv2 hK, hD1.weaken (fun _ _ _ h => hFc _ h)⟩, hS1.F ht2⟩) hS1.2.2 hm.1 hm.2
theorem kx_viP {cc : ByteArray} {nL : Nat} {Ts : List Cond} {own : String} (S : CallFix p m c cc nL s args Ts own) {ws wc wr w1 w2 : va_W} (hK : va_K g.1 vwCl (tyL g) s) (hP : va_P g.1 vwCl ws H) (hD : va_D A ws) (hS : va_S A s.heap H locs) (hA : ∀ q, s.heap.size ≤ q → A q) (hG : BG g A s s.heap) {y : MethodName} {wy : List Cond} {rm : Room} {As : List Value} {a : Nat} {E : String} {mc ms : Nat} (hM : CtXI l y wy rm g (.ref a :: As) wc w1 E mc ms) {C : String} {index : Nat} {bytes : ByteArray} {maxL : Nat} {ret : Option FieldType} {n : Nat} (cw : CallW R s args own C index y bytes maxL ret wy rm mc ms n) {q0 ci : Nat} {fs : List Value} {q : vw_C} (hc : vwCl[ci]? = some q) (he : ws[q0]? = some (a, .inr (ci, fs))) (hq : q.1 = C) (isC isR isP : List Nat) (hC : isC.map (fun i => ws[i]?) = wc.map some) (hR : isR.map (fun i => ws[i]?) = wr.map some) (hnC : va_nd isC = true) (hn1 : va_nd isR = true) (hdis : ∀ i ∈ isR, i ∉ isC) (hp1 : isP.filterMap (fun i => (wr ++ w1)[i]?) = w2) (hp2 : isP.map (fun i => (wr ++ w1)[i]?) = w2.map some) (hn2 : va_nd isP = true) {pc : Nat} {ls : Array Slot} {st rest : List Value} (hst : st = As.reverse ++ .ref a :: rest) (hn : As.length = n) (hsz : ls.size = nL) (hW : (rest.map fun v => v.category).sum ≤ 8) (hdg : decode cc pc = .ok (.invokevirtual index, 3)) (hf : cells + mc ≤ R.cells ∧ slots + ms ≤ R.slots) {mc0 ms0 : Nat} (hm : cells + mc ≤ mc0 ∧ slots + ms ≤ ms0) (hT : ∀ x ∈ c.exceptionTable.toList, False) (hlocks : meth.locks = false) {Qc : Array Value → State → Outcome → State → Prop} : W p l e R s m args below meth c H locs cells slots (vx_MQ below Qc (xE g A w2 E) args s mc0 ms0 A) (F0 m pc ls st) := by
  subst hst
  subst hq
  have hFc : ∀ q, va_A wc H.size q → A q := va_free hD hS hA isC hC
  have hPc : va_P g.1 vwCl wc H := hP.sub isC (k_fm hC)
  have hDc : va_D (fun _ => True) wc := k_dsub hD isC hC hnC
  refine vx_calli (vx_runV (As := As) (rest := rest) S (hM H.size) cw ⟨k_blind, va_recv hK hP hc he, fun U hU hW => ⟨rfl, by rw [hU], by rw [hU]; exact hPc, va_K.moved hW.alike hK, hDc, by rw [hU]; exact BG.warm hW ((hG.kept hS.2.1).narrow hFc)⟩⟩ rfl hn hsz rfl (lv_room hW) hdg hf) hS (fun q _ h => hFc q h) hFc (fun q _ h => hFc q h) (fun E1 ce q9 u t H1 locs1 ht hvm hw hB hz1 hk1 hS1 g1 g2 g3 => ?_) (fun r1 u t H1 locs1 ht hvm hw hB hz1 hk1 hS1 => hw.elim)
  obtain ⟨hE, hP1, _, hD1⟩ := hB
  rw [ht] at hP1
  obtain ⟨hP2, hD2⟩ := va_join hP hD isC isR hC hR hn1 hdis hk1 hFc hP1 hD1
  exact vx_outP S.2.2.2.1 hlocks (fun z hz => (hT z hz).elim) g1 g2 g3 (fun t2 ht2 hv2 => ⟨(), trivial, ⟨hE, by rw [ht2]; exact hP2.sub isP hp1, va_K.moved hv2 hK, hD2.sub isP hn2 hp2⟩, hS1.F ht2⟩) hS1.2.2 hm.1 hm.2
theorem k_vlW {cc : ByteArray} {nL : Nat} {Ts : List Cond} {own : String} (S : CallFix p m c cc nL s args Ts own) {ws w1 : va_W} (hK : va_K g.1 vwCl (tyL g) s) (hP : va_P g.1 vwCl ws H) (hD : va_D A ws) (hS : va_S A s.heap H locs) (hA : ∀ q, s.heap.size ≤ q → A q) (hG : BG g A s s.heap) {y : MethodName} {wy : List Cond} {rm : Room} {As : List Value} {a : Nat} {r : Int64} {mc ms : Nat} (hM : CtJ l y wy rm g (.ref a :: As) ws w1 r mc ms) {C : String} {index : Nat} {bytes : ByteArray} {maxL : Nat} {ret : Option FieldType} {n : Nat} (cw : CallW R s args own C index y bytes maxL ret wy rm mc ms n) {q0 ci : Nat} {fs : List Value} {q : vw_C} (hc : vwCl[ci]? = some q) (he : ws[q0]? = some (a, .inr (ci, fs))) (hq : q.1 = C) {pc : Nat} {ls : Array Slot} {st rest : List Value} (hst : st = As.reverse ++ .ref a :: rest) (hn : As.length = n) (hsz : ls.size = nL) (hW : (rest.map fun v => v.category).sum ≤ 8) (hdg : decode cc pc = .ok (.invokevirtual index, 3)) {k1 n1 : Nat} (hk : cells + mc = k1) (hns : slots + ms = n1) (hf : k1 ≤ R.cells ∧ n1 ≤ R.slots) (kk : ∀ (H1 : Heap) (locs1 : List Loc), va_P g.1 vwCl w1 H1 → va_D A w1 → va_S A s.heap H1 locs1 → W p l e R s m args below meth c H1 locs1 k1 n1 Q (F0 m (pc + 3) ls (.long r :: rest))) : W p l e R s m args below meth c H locs cells slots Q (F0 m pc ls st) := by
  subst hst; subst hk; subst hns
  subst hq
  have hFc := k_free hD hS hA
  refine va_calll (va_runV (As := As) (rest := rest) S (hM H.size) cw ⟨k_blind, va_recv hK hP hc he, fun U hU hW => ⟨rfl, by rw [hU], by rw [hU]; exact hP, va_K.moved hW.alike hK, hD.weaken (fun _ _ _ _ => trivial), by rw [hU]; exact BG.warm hW ((hG.kept hS.2.1).narrow hFc)⟩⟩ rfl hn hsz rfl (lv_room hW) hdg hf) hS (fun q _ h => hFc q h) hFc (fun r1 u t H1 locs1 ht hvm hw hB hz1 hk1 hS1 => ?_)
  obtain ⟨hP1, _, hD1⟩ := hB
  rw [ht] at hP1
  subst hw
  exact kk H1 locs1 hP1 (hD1.weaken (fun _ _ _ h => hFc _ h)) hS1
theorem k_vlP {cc : ByteArray} {nL : Nat} {Ts : List Cond} {own : String} (S : CallFix p m c cc nL s args Ts own) {ws wc wr w1 w2 : va_W} (hK : va_K g.1 vwCl (tyL g) s) (hP : va_P g.1 vwCl ws H) (hD : va_D A ws) (hS : va_S A s.heap H locs) (hA : ∀ q, s.heap.size ≤ q → A q) (hG : BG g A s s.heap) {y : MethodName} {wy : List Cond} {rm : Room} {As : List Value} {a : Nat} {r : Int64} {mc ms : Nat} (hM : CtJ l y wy rm g (.ref a :: As) wc w1 r mc ms) {C : String} {index : Nat} {bytes : ByteArray} {maxL : Nat} {ret : Option FieldType} {n : Nat} (cw : CallW R s args own C index y bytes maxL ret wy rm mc ms n) {q0 ci : Nat} {fs : List Value} {q : vw_C} (hc : vwCl[ci]? = some q) (he : ws[q0]? = some (a, .inr (ci, fs))) (hq : q.1 = C) (isC isR isP : List Nat) (hC : isC.map (fun i => ws[i]?) = wc.map some) (hR : isR.map (fun i => ws[i]?) = wr.map some) (hnC : va_nd isC = true) (hn1 : va_nd isR = true) (hdis : ∀ i ∈ isR, i ∉ isC) (hp1 : isP.filterMap (fun i => (wr ++ w1)[i]?) = w2) (hp2 : isP.map (fun i => (wr ++ w1)[i]?) = w2.map some) (hn2 : va_nd isP = true) {pc : Nat} {ls : Array Slot} {st rest : List Value} (hst : st = As.reverse ++ .ref a :: rest) (hn : As.length = n) (hsz : ls.size = nL) (hW : (rest.map fun v => v.category).sum ≤ 8) (hdg : decode cc pc = .ok (.invokevirtual index, 3)) {k1 n1 : Nat} (hk : cells + mc = k1) (hns : slots + ms = n1) (hf : k1 ≤ R.cells ∧ n1 ≤ R.slots) (kk : ∀ (H1 : Heap) (locs1 : List Loc), va_P g.1 vwCl w2 H1 → va_D A w2 → va_S A s.heap H1 locs1 → W p l e R s m args below meth c H1 locs1 k1 n1 Q (F0 m (pc + 3) ls (.long r :: rest))) : W p l e R s m args below meth c H locs cells slots Q (F0 m pc ls st) := by
  subst hst; subst hk; subst hns
  subst hq
  have hFc : ∀ q, va_A wc H.size q → A q := va_free hD hS hA isC hC
  have hPc : va_P g.1 vwCl wc H := hP.sub isC (k_fm hC)
  have hDc : va_D (fun _ => True) wc := k_dsub hD isC hC hnC
  refine va_calll (va_runV (As := As) (rest := rest) S (hM H.size) cw ⟨k_blind, va_recv hK hP hc he, fun U hU hW => ⟨rfl, by rw [hU], by rw [hU]; exact hPc, va_K.moved hW.alike hK, hDc, by rw [hU]; exact BG.warm hW ((hG.kept hS.2.1).narrow hFc)⟩⟩ rfl hn hsz rfl (lv_room hW) hdg hf) hS (fun q _ h => hFc q h) hFc (fun r1 u t H1 locs1 ht hvm hw hB hz1 hk1 hS1 => ?_)
  obtain ⟨hP1, _, hD1⟩ := hB
  rw [ht] at hP1
  subst hw
  obtain ⟨hP2, hD2⟩ := va_join hP hD isC isR hC hR hn1 hdis hk1 hFc hP1 hD1
  exact kk H1 locs1 (hP2.sub isP hp1) (hD2.sub isP hn2 hp2) hS1
theorem k_vlS {cc : ByteArray} {nL : Nat} {Ts : List Cond} {own : String} (S : CallFix p m c cc nL s args Ts own) {ws : va_W} (hK : va_K g.1 vwCl (tyL g) s) (hP : va_P g.1 vwCl ws H) (hD : va_D A ws) (hS : va_S A s.heap H locs) (hA : ∀ q, s.heap.size ≤ q → A q) (hG : BG g A s s.heap) {y : MethodName} {wy : List Cond} {rm : Room} {As : List Value} {a : Nat} {r : Int64} {mc ms : Nat} (hM : CtJ l y wy rm g (.ref a :: As) [] [] r mc ms) {C : String} {index : Nat} {bytes : ByteArray} {maxL : Nat} {ret : Option FieldType} {n : Nat} (cw : CallW R s args own C index y bytes maxL ret wy rm mc ms n) (hrc : ∃ cellB : Cell, H[a]? = some cellB ∧ cellB.vm.isStatics = false ∧ s.vm.findClass C = some cellB.cls) {pc : Nat} {ls : Array Slot} {st rest : List Value} (hst : st = As.reverse ++ .ref a :: rest) (hn : As.length = n) (hsz : ls.size = nL) (hW : (rest.map fun v => v.category).sum ≤ 8) (hdg : decode cc pc = .ok (.invokevirtual index, 3)) {k1 n1 : Nat} (hk : cells + mc = k1) (hns : slots + ms = n1) (hf : k1 ≤ R.cells ∧ n1 ≤ R.slots) (kk : ∀ (H1 : Heap) (locs1 : List Loc), va_P g.1 vwCl ws H1 → va_D A ws → va_S A s.heap H1 locs1 → W p l e R s m args below meth c H1 locs1 k1 n1 Q (F0 m (pc + 3) ls (.long r :: rest))) : W p l e R s m args below meth c H locs cells slots Q (F0 m pc ls st) := by
  subst hst; subst hk; subst hns
  have hFc : ∀ q, va_A [] H.size q → A q := va_free hD hS hA [] rfl
  refine va_calll (va_runV (As := As) (rest := rest) S (hM H.size) cw ⟨k_blind, hrc, fun U hU hW => ⟨rfl, by rw [hU], (fun k q h => by simp at h), va_K.moved hW.alike hK, ⟨fun i j p q h => by simp at h, fun k q h => by simp at h⟩, by rw [hU]; exact BG.warm hW ((hG.kept hS.2.1).narrow hFc)⟩⟩ rfl hn hsz rfl (lv_room hW) hdg hf) hS (fun q _ h => hFc q h) hFc (fun r1 u t H1 locs1 ht hvm hw hB hz1 hk1 hS1 => ?_)
  obtain ⟨hP1, _, hD1⟩ := hB
  rw [ht] at hP1
  subst hw
  refine kk H1 locs1 (hP.kept (fun k q hq => hk1 q.1 (k_lt hP hq) ?_)) hD hS1
  intro h9
  rcases h9 with ⟨k9, e9, h9⟩ | h9
  · simp at h9
  · exact absurd (k_lt hP hq) (Nat.not_lt.mpr h9)
theorem kx_vlW {cc : ByteArray} {nL : Nat} {Ts : List Cond} {own : String} (S : CallFix p m c cc nL s args Ts own) {ws w1 : va_W} (hK : va_K g.1 vwCl (tyL g) s) (hP : va_P g.1 vwCl ws H) (hD : va_D A ws) (hS : va_S A s.heap H locs) (hA : ∀ q, s.heap.size ≤ q → A q) (hG : BG g A s s.heap) {y : MethodName} {wy : List Cond} {rm : Room} {As : List Value} {a : Nat} {E : String} {mc ms : Nat} (hM : CtXJ l y wy rm g (.ref a :: As) ws w1 E mc ms) {C : String} {index : Nat} {bytes : ByteArray} {maxL : Nat} {ret : Option FieldType} {n : Nat} (cw : CallW R s args own C index y bytes maxL ret wy rm mc ms n) {q0 ci : Nat} {fs : List Value} {q : vw_C} (hc : vwCl[ci]? = some q) (he : ws[q0]? = some (a, .inr (ci, fs))) (hq : q.1 = C) {pc : Nat} {ls : Array Slot} {st rest : List Value} (hst : st = As.reverse ++ .ref a :: rest) (hn : As.length = n) (hsz : ls.size = nL) (hW : (rest.map fun v => v.category).sum ≤ 8) (hdg : decode cc pc = .ok (.invokevirtual index, 3)) (hf : cells + mc ≤ R.cells ∧ slots + ms ≤ R.slots) {mc0 ms0 : Nat} (hm : cells + mc ≤ mc0 ∧ slots + ms ≤ ms0) (hT : ∀ x ∈ c.exceptionTable.toList, False) (hlocks : meth.locks = false) {Qc : Array Value → State → Outcome → State → Prop} : W p l e R s m args below meth c H locs cells slots (vx_MQ below Qc (xE g A w1 E) args s mc0 ms0 A) (F0 m pc ls st) := by
  subst hst
  subst hq
  have hFc := k_free hD hS hA
  refine vx_calll (vx_runV (As := As) (rest := rest) S (hM H.size) cw ⟨k_blind, va_recv hK hP hc he, fun U hU hW => ⟨rfl, by rw [hU], by rw [hU]; exact hP, va_K.moved hW.alike hK, hD.weaken (fun _ _ _ _ => trivial), by rw [hU]; exact BG.warm hW ((hG.kept hS.2.1).narrow hFc)⟩⟩ rfl hn hsz rfl (lv_room hW) hdg hf) hS (fun q _ h => hFc q h) hFc (fun q _ h => hFc q h) (fun E1 ce q9 u t H1 locs1 ht hvm hw hB hz1 hk1 hS1 g1 g2 g3 => ?_) (fun r1 u t H1 locs1 ht hvm hw hB hz1 hk1 hS1 => hw.elim)
  obtain ⟨hE, hP1, _, hD1⟩ := hB
  rw [ht] at hP1
  exact vx_outP S.2.2.2.1 hlocks (fun z hz => (hT z hz).elim) g1 g2 g3 (fun t2 ht2 hv2 => ⟨(), trivial, ⟨hE, by rw [ht2]; exact hP1, va_K.moved hv2 hK, hD1.weaken (fun _ _ _ h => hFc _ h)⟩, hS1.F ht2⟩) hS1.2.2 hm.1 hm.2
theorem kx_vlP {cc : ByteArray} {nL : Nat} {Ts : List Cond} {own : String} (S : CallFix p m c cc nL s args Ts own) {ws wc wr w1 w2 : va_W} (hK : va_K g.1 vwCl (tyL g) s) (hP : va_P g.1 vwCl ws H) (hD : va_D A ws) (hS : va_S A s.heap H locs) (hA : ∀ q, s.heap.size ≤ q → A q) (hG : BG g A s s.heap) {y : MethodName} {wy : List Cond} {rm : Room} {As : List Value} {a : Nat} {E : String} {mc ms : Nat} (hM : CtXJ l y wy rm g (.ref a :: As) wc w1 E mc ms) {C : String} {index : Nat} {bytes : ByteArray} {maxL : Nat} {ret : Option FieldType} {n : Nat} (cw : CallW R s args own C index y bytes maxL ret wy rm mc ms n) {q0 ci : Nat} {fs : List Value} {q : vw_C} (hc : vwCl[ci]? = some q) (he : ws[q0]? = some (a, .inr (ci, fs))) (hq : q.1 = C) (isC isR isP : List Nat) (hC : isC.map (fun i => ws[i]?) = wc.map some) (hR : isR.map (fun i => ws[i]?) = wr.map some) (hnC : va_nd isC = true) (hn1 : va_nd isR = true) (hdis : ∀ i ∈ isR, i ∉ isC) (hp1 : isP.filterMap (fun i => (wr ++ w1)[i]?) = w2) (hp2 : isP.map (fun i => (wr ++ w1)[i]?) = w2.map some) (hn2 : va_nd isP = true) {pc : Nat} {ls : Array Slot} {st rest : List Value} (hst : st = As.reverse ++ .ref a :: rest) (hn : As.length = n) (hsz : ls.size = nL) (hW : (rest.map fun v => v.category).sum ≤ 8) (hdg : decode cc pc = .ok (.invokevirtual index, 3)) (hf : cells + mc ≤ R.cells ∧ slots + ms ≤ R.slots) {mc0 ms0 : Nat} (hm : cells + mc ≤ mc0 ∧ slots + ms ≤ ms0) (hT : ∀ x ∈ c.exceptionTable.toList, False) (hlocks : meth.locks = false) {Qc : Array Value → State → Outcome → State → Prop} : W p l e R s m args below meth c H locs cells slots (vx_MQ below Qc (xE g A w2 E) args s mc0 ms0 A) (F0 m pc ls st) := by
  subst hst
  subst hq
  have hFc : ∀ q, va_A wc H.size q → A q := va_free hD hS hA isC hC
  have hPc : va_P g.1 vwCl wc H := hP.sub isC (k_fm hC)
  have hDc : va_D (fun _ => True) wc := k_dsub hD isC hC hnC
  refine vx_calll (vx_runV (As := As) (rest := rest) S (hM H.size) cw ⟨k_blind, va_recv hK hP hc he, fun U hU hW => ⟨rfl, by rw [hU], by rw [hU]; exact hPc, va_K.moved hW.alike hK, hDc, by rw [hU]; exact BG.warm hW ((hG.kept hS.2.1).narrow hFc)⟩⟩ rfl hn hsz rfl (lv_room hW) hdg hf) hS (fun q _ h => hFc q h) hFc (fun q _ h => hFc q h) (fun E1 ce q9 u t H1 locs1 ht hvm hw hB hz1 hk1 hS1 g1 g2 g3 => ?_) (fun r1 u t H1 locs1 ht hvm hw hB hz1 hk1 hS1 => hw.elim)
  obtain ⟨hE, hP1, _, hD1⟩ := hB
  rw [ht] at hP1
  obtain ⟨hP2, hD2⟩ := va_join hP hD isC isR hC hR hn1 hdis hk1 hFc hP1 hD1
  exact vx_outP S.2.2.2.1 hlocks (fun z hz => (hT z hz).elim) g1 g2 g3 (fun t2 ht2 hv2 => ⟨(), trivial, ⟨hE, by rw [ht2]; exact hP2.sub isP hp1, va_K.moved hv2 hK, hD2.sub isP hn2 hp2⟩, hS1.F ht2⟩) hS1.2.2 hm.1 hm.2
theorem k_vvW {cc : ByteArray} {nL : Nat} {Ts : List Cond} {own : String} (S : CallFix p m c cc nL s args Ts own) {ws w1 : va_W} (hK : va_K g.1 vwCl (tyL g) s) (hP : va_P g.1 vwCl ws H) (hD : va_D A ws) (hS : va_S A s.heap H locs) (hA : ∀ q, s.heap.size ≤ q → A q) (hG : BG g A s s.heap) {y : MethodName} {wy : List Cond} {rm : Room} {As : List Value} {a : Nat} {mc ms : Nat} (hM : CtV l y wy rm g (.ref a :: As) ws w1 mc ms) {C : String} {index : Nat} {bytes : ByteArray} {maxL : Nat} {ret : Option FieldType} {n : Nat} (cw : CallW R s args own C index y bytes maxL ret wy rm mc ms n) {q0 ci : Nat} {fs : List Value} {q : vw_C} (hc : vwCl[ci]? = some q) (he : ws[q0]? = some (a, .inr (ci, fs))) (hq : q.1 = C) {pc : Nat} {ls : Array Slot} {st rest : List Value} (hst : st = As.reverse ++ .ref a :: rest) (hn : As.length = n) (hsz : ls.size = nL) (hW : (rest.map fun v => v.category).sum ≤ 8) (hdg : decode cc pc = .ok (.invokevirtual index, 3)) {k1 n1 : Nat} (hk : cells + mc = k1) (hns : slots + ms = n1) (hf : k1 ≤ R.cells ∧ n1 ≤ R.slots) (kk : ∀ (H1 : Heap) (locs1 : List Loc), va_P g.1 vwCl w1 H1 → va_D A w1 → va_S A s.heap H1 locs1 → W p l e R s m args below meth c H1 locs1 k1 n1 Q (F0 m (pc + 3) ls rest)) : W p l e R s m args below meth c H locs cells slots Q (F0 m pc ls st) := by
  subst hst; subst hk; subst hns
  subst hq
  have hFc := k_free hD hS hA
  refine va_callv (va_runV (As := As) (rest := rest) S (hM H.size) cw ⟨k_blind, va_recv hK hP hc he, fun U hU hW => ⟨rfl, by rw [hU], by rw [hU]; exact hP, va_K.moved hW.alike hK, hD.weaken (fun _ _ _ _ => trivial), by rw [hU]; exact BG.warm hW ((hG.kept hS.2.1).narrow hFc)⟩⟩ rfl hn hsz rfl (lv_room hW) hdg hf) hS (fun q _ h => hFc q h) hFc (fun u t H1 locs1 ht hvm hw hB hz1 hk1 hS1 => ?_)
  obtain ⟨hP1, _, hD1⟩ := hB
  rw [ht] at hP1
  exact kk H1 locs1 hP1 (hD1.weaken (fun _ _ _ h => hFc _ h)) hS1
theorem k_vvP {cc : ByteArray} {nL : Nat} {Ts : List Cond} {own : String} (S : CallFix p m c cc nL s args Ts own) {ws wc wr w1 w2 : va_W} (hK : va_K g.1 vwCl (tyL g) s) (hP : va_P g.1 vwCl ws H) (hD : va_D A ws) (hS : va_S A s.heap H locs) (hA : ∀ q, s.heap.size ≤ q → A q) (hG : BG g A s s.heap) {y : MethodName} {wy : List Cond} {rm : Room} {As : List Value} {a : Nat} {mc ms : Nat} (hM : CtV l y wy rm g (.ref a :: As) wc w1 mc ms) {C : String} {index : Nat} {bytes : ByteArray} {maxL : Nat} {ret : Option FieldType} {n : Nat} (cw : CallW R s args own C index y bytes maxL ret wy rm mc ms n) {q0 ci : Nat} {fs : List Value} {q : vw_C} (hc : vwCl[ci]? = some q) (he : ws[q0]? = some (a, .inr (ci, fs))) (hq : q.1 = C) (isC isR isP : List Nat) (hC : isC.map (fun i => ws[i]?) = wc.map some) (hR : isR.map (fun i => ws[i]?) = wr.map some) (hnC : va_nd isC = true) (hn1 : va_nd isR = true) (hdis : ∀ i ∈ isR, i ∉ isC) (hp1 : isP.filterMap (fun i => (wr ++ w1)[i]?) = w2) (hp2 : isP.map (fun i => (wr ++ w1)[i]?) = w2.map some) (hn2 : va_nd isP = true) {pc : Nat} {ls : Array Slot} {st rest : List Value} (hst : st = As.reverse ++ .ref a :: rest) (hn : As.length = n) (hsz : ls.size = nL) (hW : (rest.map fun v => v.category).sum ≤ 8) (hdg : decode cc pc = .ok (.invokevirtual index, 3)) {k1 n1 : Nat} (hk : cells + mc = k1) (hns : slots + ms = n1) (hf : k1 ≤ R.cells ∧ n1 ≤ R.slots) (kk : ∀ (H1 : Heap) (locs1 : List Loc), va_P g.1 vwCl w2 H1 → va_D A w2 → va_S A s.heap H1 locs1 → W p l e R s m args below meth c H1 locs1 k1 n1 Q (F0 m (pc + 3) ls rest)) : W p l e R s m args below meth c H locs cells slots Q (F0 m pc ls st) := by
  subst hst; subst hk; subst hns
  subst hq
  have hFc : ∀ q, va_A wc H.size q → A q := va_free hD hS hA isC hC
  have hPc : va_P g.1 vwCl wc H := hP.sub isC (k_fm hC)
  have hDc : va_D (fun _ => True) wc := k_dsub hD isC hC hnC
  refine va_callv (va_runV (As := As) (rest := rest) S (hM H.size) cw ⟨k_blind, va_recv hK hP hc he, fun U hU hW => ⟨rfl, by rw [hU], by rw [hU]; exact hPc, va_K.moved hW.alike hK, hDc, by rw [hU]; exact BG.warm hW ((hG.kept hS.2.1).narrow hFc)⟩⟩ rfl hn hsz rfl (lv_room hW) hdg hf) hS (fun q _ h => hFc q h) hFc (fun u t H1 locs1 ht hvm hw hB hz1 hk1 hS1 => ?_)
  obtain ⟨hP1, _, hD1⟩ := hB
  rw [ht] at hP1
  obtain ⟨hP2, hD2⟩ := va_join hP hD isC isR hC hR hn1 hdis hk1 hFc hP1 hD1
  exact kk H1 locs1 (hP2.sub isP hp1) (hD2.sub isP hn2 hp2) hS1
theorem kx_vvW {cc : ByteArray} {nL : Nat} {Ts : List Cond} {own : String} (S : CallFix p m c cc nL s args Ts own) {ws w1 : va_W} (hK : va_K g.1 vwCl (tyL g) s) (hP : va_P g.1 vwCl ws H) (hD : va_D A ws) (hS : va_S A s.heap H locs) (hA : ∀ q, s.heap.size ≤ q → A q) (hG : BG g A s s.heap) {y : MethodName} {wy : List Cond} {rm : Room} {As : List Value} {a : Nat} {E : String} {mc ms : Nat} (hM : CtXV l y wy rm g (.ref a :: As) ws w1 E mc ms) {C : String} {index : Nat} {bytes : ByteArray} {maxL : Nat} {ret : Option FieldType} {n : Nat} (cw : CallW R s args own C index y bytes maxL ret wy rm mc ms n) {q0 ci : Nat} {fs : List Value} {q : vw_C} (hc : vwCl[ci]? = some q) (he : ws[q0]? = some (a, .inr (ci, fs))) (hq : q.1 = C) {pc : Nat} {ls : Array Slot} {st rest : List Value} (hst : st = As.reverse ++ .ref a :: rest) (hn : As.length = n) (hsz : ls.size = nL) (hW : (rest.map fun v => v.category).sum ≤ 8) (hdg : decode cc pc = .ok (.invokevirtual index, 3)) (hf : cells + mc ≤ R.cells ∧ slots + ms ≤ R.slots) {mc0 ms0 : Nat} (hm : cells + mc ≤ mc0 ∧ slots + ms ≤ ms0) (hT : ∀ x ∈ c.exceptionTable.toList, False) (hlocks : meth.locks = false) {Qc : Array Value → State → Outcome → State → Prop} : W p l e R s m args below meth c H locs cells slots (vx_MQ below Qc (xE g A w1 E) args s mc0 ms0 A) (F0 m pc ls st) := by
  subst hst
  subst hq
  have hFc := k_free hD hS hA
  refine vx_callv (vx_runV (As := As) (rest := rest) S (hM H.size) cw ⟨k_blind, va_recv hK hP hc he, fun U hU hW => ⟨rfl, by rw [hU], by rw [hU]; exact hP, va_K.moved hW.alike hK, hD.weaken (fun _ _ _ _ => trivial), by rw [hU]; exact BG.warm hW ((hG.kept hS.2.1).narrow hFc)⟩⟩ rfl hn hsz rfl (lv_room hW) hdg hf) hS (fun q _ h => hFc q h) hFc (fun q _ h => hFc q h) (fun E1 ce q9 u t H1 locs1 ht hvm hw hB hz1 hk1 hS1 g1 g2 g3 => ?_) (fun u t H1 locs1 ht hvm hw hB hz1 hk1 hS1 => hw.elim)
  obtain ⟨hE, hP1, _, hD1⟩ := hB
  rw [ht] at hP1
  exact vx_outP S.2.2.2.1 hlocks (fun z hz => (hT z hz).elim) g1 g2 g3 (fun t2 ht2 hv2 => ⟨(), trivial, ⟨hE, by rw [ht2]; exact hP1, va_K.moved hv2 hK, hD1.weaken (fun _ _ _ h => hFc _ h)⟩, hS1.F ht2⟩) hS1.2.2 hm.1 hm.2
theorem kx_vvP {cc : ByteArray} {nL : Nat} {Ts : List Cond} {own : String} (S : CallFix p m c cc nL s args Ts own) {ws wc wr w1 w2 : va_W} (hK : va_K g.1 vwCl (tyL g) s) (hP : va_P g.1 vwCl ws H) (hD : va_D A ws) (hS : va_S A s.heap H locs) (hA : ∀ q, s.heap.size ≤ q → A q) (hG : BG g A s s.heap) {y : MethodName} {wy : List Cond} {rm : Room} {As : List Value} {a : Nat} {E : String} {mc ms : Nat} (hM : CtXV l y wy rm g (.ref a :: As) wc w1 E mc ms) {C : String} {index : Nat} {bytes : ByteArray} {maxL : Nat} {ret : Option FieldType} {n : Nat} (cw : CallW R s args own C index y bytes maxL ret wy rm mc ms n) {q0 ci : Nat} {fs : List Value} {q : vw_C} (hc : vwCl[ci]? = some q) (he : ws[q0]? = some (a, .inr (ci, fs))) (hq : q.1 = C) (isC isR isP : List Nat) (hC : isC.map (fun i => ws[i]?) = wc.map some) (hR : isR.map (fun i => ws[i]?) = wr.map some) (hnC : va_nd isC = true) (hn1 : va_nd isR = true) (hdis : ∀ i ∈ isR, i ∉ isC) (hp1 : isP.filterMap (fun i => (wr ++ w1)[i]?) = w2) (hp2 : isP.map (fun i => (wr ++ w1)[i]?) = w2.map some) (hn2 : va_nd isP = true) {pc : Nat} {ls : Array Slot} {st rest : List Value} (hst : st = As.reverse ++ .ref a :: rest) (hn : As.length = n) (hsz : ls.size = nL) (hW : (rest.map fun v => v.category).sum ≤ 8) (hdg : decode cc pc = .ok (.invokevirtual index, 3)) (hf : cells + mc ≤ R.cells ∧ slots + ms ≤ R.slots) {mc0 ms0 : Nat} (hm : cells + mc ≤ mc0 ∧ slots + ms ≤ ms0) (hT : ∀ x ∈ c.exceptionTable.toList, False) (hlocks : meth.locks = false) {Qc : Array Value → State → Outcome → State → Prop} : W p l e R s m args below meth c H locs cells slots (vx_MQ below Qc (xE g A w2 E) args s mc0 ms0 A) (F0 m pc ls st) := by
  subst hst
  subst hq
  have hFc : ∀ q, va_A wc H.size q → A q := va_free hD hS hA isC hC
  have hPc : va_P g.1 vwCl wc H := hP.sub isC (k_fm hC)
  have hDc : va_D (fun _ => True) wc := k_dsub hD isC hC hnC
  refine vx_callv (vx_runV (As := As) (rest := rest) S (hM H.size) cw ⟨k_blind, va_recv hK hP hc he, fun U hU hW => ⟨rfl, by rw [hU], by rw [hU]; exact hPc, va_K.moved hW.alike hK, hDc, by rw [hU]; exact BG.warm hW ((hG.kept hS.2.1).narrow hFc)⟩⟩ rfl hn hsz rfl (lv_room hW) hdg hf) hS (fun q _ h => hFc q h) hFc (fun q _ h => hFc q h) (fun E1 ce q9 u t H1 locs1 ht hvm hw hB hz1 hk1 hS1 g1 g2 g3 => ?_) (fun u t H1 locs1 ht hvm hw hB hz1 hk1 hS1 => hw.elim)
  obtain ⟨hE, hP1, _, hD1⟩ := hB
  rw [ht] at hP1
  obtain ⟨hP2, hD2⟩ := va_join hP hD isC isR hC hR hn1 hdis hk1 hFc hP1 hD1
  exact vx_outP S.2.2.2.1 hlocks (fun z hz => (hT z hz).elim) g1 g2 g3 (fun t2 ht2 hv2 => ⟨(), trivial, ⟨hE, by rw [ht2]; exact hP2.sub isP hp1, va_K.moved hv2 hK, hD2.sub isP hn2 hp2⟩, hS1.F ht2⟩) hS1.2.2 hm.1 hm.2
theorem k_siW {cc : ByteArray} {nL : Nat} {Ts : List Cond} {own : String} (S : CallFix p m c cc nL s args Ts own) {ws w1 : va_W} (hK : va_K g.1 vwCl (tyL g) s) (hP : va_P g.1 vwCl ws H) (hD : va_D A ws) (hS : va_S A s.heap H locs) (hA : ∀ q, s.heap.size ≤ q → A q) (hG : BG g A s s.heap) {y : MethodName} {wy : List Cond} {rm : Room} {As : List Value} {r : Int32} {mc ms : Nat} (hM : CtI l y wy rm g As ws w1 r mc ms) {index : Nat} {bytes : ByteArray} {maxL : Nat} {ret : Option FieldType} {n : Nat} (cw : CallB R s args own index y bytes maxL ret wy rm mc ms n ∧ (Cond.static y).before args s = true) {pc : Nat} {ls : Array Slot} {st rest : List Value} (hst : st = As.reverse ++ rest) (hn : As.length = n) (hsz : ls.size = nL) (hW : (rest.map fun v => v.category).sum ≤ 8) (hdg : decode cc pc = .ok (.invokestatic index, 3)) {k1 n1 : Nat} (hk : cells + mc = k1) (hns : slots + ms = n1) (hf : k1 ≤ R.cells ∧ n1 ≤ R.slots) (kk : ∀ (H1 : Heap) (locs1 : List Loc), va_P g.1 vwCl w1 H1 → va_D A w1 → va_S A s.heap H1 locs1 → W p l e R s m args below meth c H1 locs1 k1 n1 Q (F0 m (pc + 3) ls (.int r :: rest))) : W p l e R s m args below meth c H locs cells slots Q (F0 m pc ls st) := by
  subst hst; subst hk; subst hns
  have hFc := k_free hD hS hA
  refine va_calli (va_runS (As := As) (rest := rest) S (hM H.size) cw ⟨k_blind, fun U hU hW => ⟨rfl, by rw [hU], by rw [hU]; exact hP, va_K.moved hW.alike hK, hD.weaken (fun _ _ _ _ => trivial), by rw [hU]; exact BG.warm hW ((hG.kept hS.2.1).narrow hFc)⟩⟩ rfl hn hsz rfl (lv_room hW) hdg hf) hS (fun q _ h => hFc q h) hFc (fun r1 u t H1 locs1 ht hvm hw hB hz1 hk1 hS1 => ?_)
  obtain ⟨hP1, _, hD1⟩ := hB
  rw [ht] at hP1
  subst hw
  exact kk H1 locs1 hP1 (hD1.weaken (fun _ _ _ h => hFc _ h)) hS1
theorem k_siP {cc : ByteArray} {nL : Nat} {Ts : List Cond} {own : String} (S : CallFix p m c cc nL s args Ts own) {ws wc wr w1 w2 : va_W} (hK : va_K g.1 vwCl (tyL g) s) (hP : va_P g.1 vwCl ws H) (hD : va_D A ws) (hS : va_S A s.heap H locs) (hA : ∀ q, s.heap.size ≤ q → A q) (hG : BG g A s s.heap) {y : MethodName} {wy : List Cond} {rm : Room} {As : List Value} {r : Int32} {mc ms : Nat} (hM : CtI l y wy rm g As wc w1 r mc ms) {index : Nat} {bytes : ByteArray} {maxL : Nat} {ret : Option FieldType} {n : Nat} (cw : CallB R s args own index y bytes maxL ret wy rm mc ms n ∧ (Cond.static y).before args s = true) (isC isR isP : List Nat) (hC : isC.map (fun i => ws[i]?) = wc.map some) (hR : isR.map (fun i => ws[i]?) = wr.map some) (hnC : va_nd isC = true) (hn1 : va_nd isR = true) (hdis : ∀ i ∈ isR, i ∉ isC) (hp1 : isP.filterMap (fun i => (wr ++ w1)[i]?) = w2) (hp2 : isP.map (fun i => (wr ++ w1)[i]?) = w2.map some) (hn2 : va_nd isP = true) {pc : Nat} {ls : Array Slot} {st rest : List Value} (hst : st = As.reverse ++ rest) (hn : As.length = n) (hsz : ls.size = nL) (hW : (rest.map fun v => v.category).sum ≤ 8) (hdg : decode cc pc = .ok (.invokestatic index, 3)) {k1 n1 : Nat} (hk : cells + mc = k1) (hns : slots + ms = n1) (hf : k1 ≤ R.cells ∧ n1 ≤ R.slots) (kk : ∀ (H1 : Heap) (locs1 : List Loc), va_P g.1 vwCl w2 H1 → va_D A w2 → va_S A s.heap H1 locs1 → W p l e R s m args below meth c H1 locs1 k1 n1 Q (F0 m (pc + 3) ls (.int r :: rest))) : W p l e R s m args below meth c H locs cells slots Q (F0 m pc ls st) := by
  subst hst; subst hk; subst hns
  have hFc : ∀ q, va_A wc H.size q → A q := va_free hD hS hA isC hC
  have hPc : va_P g.1 vwCl wc H := hP.sub isC (k_fm hC)
  have hDc : va_D (fun _ => True) wc := k_dsub hD isC hC hnC
  refine va_calli (va_runS (As := As) (rest := rest) S (hM H.size) cw ⟨k_blind, fun U hU hW => ⟨rfl, by rw [hU], by rw [hU]; exact hPc, va_K.moved hW.alike hK, hDc, by rw [hU]; exact BG.warm hW ((hG.kept hS.2.1).narrow hFc)⟩⟩ rfl hn hsz rfl (lv_room hW) hdg hf) hS (fun q _ h => hFc q h) hFc (fun r1 u t H1 locs1 ht hvm hw hB hz1 hk1 hS1 => ?_)
  obtain ⟨hP1, _, hD1⟩ := hB
  rw [ht] at hP1
  subst hw
  obtain ⟨hP2, hD2⟩ := va_join hP hD isC isR hC hR hn1 hdis hk1 hFc hP1 hD1
  exact kk H1 locs1 (hP2.sub isP hp1) (hD2.sub isP hn2 hp2) hS1
theorem k_si0 {cc : ByteArray} {nL : Nat} {Ts : List Cond} {own : String} (S : CallFix p m c cc nL s args Ts own) {ws : va_W} (hK : va_K g.1 vwCl (tyL g) s) (hP : va_P g.1 vwCl ws H) (hD : va_D A ws) (hS : va_S A s.heap H locs) (hA : ∀ q, s.heap.size ≤ q → A q) (hG : BG g A s s.heap) {y : MethodName} {wy : List Cond} {rm : Room} {As : List Value} {r : Int32} {mc ms : Nat} (hM : CtI l y wy rm g As [] [] r mc ms) {index : Nat} {bytes : ByteArray} {maxL : Nat} {ret : Option FieldType} {n : Nat} (cw : CallB R s args own index y bytes maxL ret wy rm mc ms n ∧ (Cond.static y).before args s = true) {pc : Nat} {ls : Array Slot} {st rest : List Value} (hst : st = As.reverse ++ rest) (hn : As.length = n) (hsz : ls.size = nL) (hW : (rest.map fun v => v.category).sum ≤ 8) (hdg : decode cc pc = .ok (.invokestatic index, 3)) {k1 n1 : Nat} (hk : cells + mc = k1) (hns : slots + ms = n1) (hf : k1 ≤ R.cells ∧ n1 ≤ R.slots) (kk : ∀ (H1 : Heap) (locs1 : List Loc), va_P g.1 vwCl ws H1 → va_D A ws → va_S A s.heap H1 locs1 → W p l e R s m args below meth c H1 locs1 k1 n1 Q (F0 m (pc + 3) ls (.int r :: rest))) : W p l e R s m args below meth c H locs cells slots Q (F0 m pc ls st) := by
  subst hst; subst hk; subst hns
  have hFc : ∀ q, va_A [] H.size q → A q := va_free hD hS hA [] rfl
  refine va_calli (va_runS (As := As) (rest := rest) S (hM H.size) cw ⟨k_blind, fun U hU hW => ⟨rfl, by rw [hU], (fun k q h => by simp at h), va_K.moved hW.alike hK, ⟨fun i j p q h => by simp at h, fun k q h => by simp at h⟩, by rw [hU]; exact BG.warm hW ((hG.kept hS.2.1).narrow hFc)⟩⟩ rfl hn hsz rfl (lv_room hW) hdg hf) hS (fun q _ h => hFc q h) hFc (fun r1 u t H1 locs1 ht hvm hw hB hz1 hk1 hS1 => ?_)
  obtain ⟨hP1, _, hD1⟩ := hB
  rw [ht] at hP1
  subst hw
  refine kk H1 locs1 (hP.kept (fun k q hq => hk1 q.1 (k_lt hP hq) ?_)) hD hS1
  intro h9
  rcases h9 with ⟨k9, e9, h9⟩ | h9
  · simp at h9
  · exact absurd (k_lt hP hq) (Nat.not_lt.mpr h9)
theorem k_slW {cc : ByteArray} {nL : Nat} {Ts : List Cond} {own : String} (S : CallFix p m c cc nL s args Ts own) {ws w1 : va_W} (hK : va_K g.1 vwCl (tyL g) s) (hP : va_P g.1 vwCl ws H) (hD : va_D A ws) (hS : va_S A s.heap H locs) (hA : ∀ q, s.heap.size ≤ q → A q) (hG : BG g A s s.heap) {y : MethodName} {wy : List Cond} {rm : Room} {As : List Value} {r : Int64} {mc ms : Nat} (hM : CtJ l y wy rm g As ws w1 r mc ms) {index : Nat} {bytes : ByteArray} {maxL : Nat} {ret : Option FieldType} {n : Nat} (cw : CallB R s args own index y bytes maxL ret wy rm mc ms n ∧ (Cond.static y).before args s = true) {pc : Nat} {ls : Array Slot} {st rest : List Value} (hst : st = As.reverse ++ rest) (hn : As.length = n) (hsz : ls.size = nL) (hW : (rest.map fun v => v.category).sum ≤ 8) (hdg : decode cc pc = .ok (.invokestatic index, 3)) {k1 n1 : Nat} (hk : cells + mc = k1) (hns : slots + ms = n1) (hf : k1 ≤ R.cells ∧ n1 ≤ R.slots) (kk : ∀ (H1 : Heap) (locs1 : List Loc), va_P g.1 vwCl w1 H1 → va_D A w1 → va_S A s.heap H1 locs1 → W p l e R s m args below meth c H1 locs1 k1 n1 Q (F0 m (pc + 3) ls (.long r :: rest))) : W p l e R s m args below meth c H locs cells slots Q (F0 m pc ls st) := by
  subst hst; subst hk; subst hns
  have hFc := k_free hD hS hA
  refine va_calll (va_runS (As := As) (rest := rest) S (hM H.size) cw ⟨k_blind, fun U hU hW => ⟨rfl, by rw [hU], by rw [hU]; exact hP, va_K.moved hW.alike hK, hD.weaken (fun _ _ _ _ => trivial), by rw [hU]; exact BG.warm hW ((hG.kept hS.2.1).narrow hFc)⟩⟩ rfl hn hsz rfl (lv_room hW) hdg hf) hS (fun q _ h => hFc q h) hFc (fun r1 u t H1 locs1 ht hvm hw hB hz1 hk1 hS1 => ?_)
  obtain ⟨hP1, _, hD1⟩ := hB
  rw [ht] at hP1
  subst hw
  exact kk H1 locs1 hP1 (hD1.weaken (fun _ _ _ h => hFc _ h)) hS1
theorem k_slP {cc : ByteArray} {nL : Nat} {Ts : List Cond} {own : String} (S : CallFix p m c cc nL s args Ts own) {ws wc wr w1 w2 : va_W} (hK : va_K g.1 vwCl (tyL g) s) (hP : va_P g.1 vwCl ws H) (hD : va_D A ws) (hS : va_S A s.heap H locs) (hA : ∀ q, s.heap.size ≤ q → A q) (hG : BG g A s s.heap) {y : MethodName} {wy : List Cond} {rm : Room} {As : List Value} {r : Int64} {mc ms : Nat} (hM : CtJ l y wy rm g As wc w1 r mc ms) {index : Nat} {bytes : ByteArray} {maxL : Nat} {ret : Option FieldType} {n : Nat} (cw : CallB R s args own index y bytes maxL ret wy rm mc ms n ∧ (Cond.static y).before args s = true) (isC isR isP : List Nat) (hC : isC.map (fun i => ws[i]?) = wc.map some) (hR : isR.map (fun i => ws[i]?) = wr.map some) (hnC : va_nd isC = true) (hn1 : va_nd isR = true) (hdis : ∀ i ∈ isR, i ∉ isC) (hp1 : isP.filterMap (fun i => (wr ++ w1)[i]?) = w2) (hp2 : isP.map (fun i => (wr ++ w1)[i]?) = w2.map some) (hn2 : va_nd isP = true) {pc : Nat} {ls : Array Slot} {st rest : List Value} (hst : st = As.reverse ++ rest) (hn : As.length = n) (hsz : ls.size = nL) (hW : (rest.map fun v => v.category).sum ≤ 8) (hdg : decode cc pc = .ok (.invokestatic index, 3)) {k1 n1 : Nat} (hk : cells + mc = k1) (hns : slots + ms = n1) (hf : k1 ≤ R.cells ∧ n1 ≤ R.slots) (kk : ∀ (H1 : Heap) (locs1 : List Loc), va_P g.1 vwCl w2 H1 → va_D A w2 → va_S A s.heap H1 locs1 → W p l e R s m args below meth c H1 locs1 k1 n1 Q (F0 m (pc + 3) ls (.long r :: rest))) : W p l e R s m args below meth c H locs cells slots Q (F0 m pc ls st) := by
  subst hst; subst hk; subst hns
  have hFc : ∀ q, va_A wc H.size q → A q := va_free hD hS hA isC hC
  have hPc : va_P g.1 vwCl wc H := hP.sub isC (k_fm hC)
  have hDc : va_D (fun _ => True) wc := k_dsub hD isC hC hnC
  refine va_calll (va_runS (As := As) (rest := rest) S (hM H.size) cw ⟨k_blind, fun U hU hW => ⟨rfl, by rw [hU], by rw [hU]; exact hPc, va_K.moved hW.alike hK, hDc, by rw [hU]; exact BG.warm hW ((hG.kept hS.2.1).narrow hFc)⟩⟩ rfl hn hsz rfl (lv_room hW) hdg hf) hS (fun q _ h => hFc q h) hFc (fun r1 u t H1 locs1 ht hvm hw hB hz1 hk1 hS1 => ?_)
  obtain ⟨hP1, _, hD1⟩ := hB
  rw [ht] at hP1
  subst hw
  obtain ⟨hP2, hD2⟩ := va_join hP hD isC isR hC hR hn1 hdis hk1 hFc hP1 hD1
  exact kk H1 locs1 (hP2.sub isP hp1) (hD2.sub isP hn2 hp2) hS1
theorem k_sl0 {cc : ByteArray} {nL : Nat} {Ts : List Cond} {own : String} (S : CallFix p m c cc nL s args Ts own) {ws : va_W} (hK : va_K g.1 vwCl (tyL g) s) (hP : va_P g.1 vwCl ws H) (hD : va_D A ws) (hS : va_S A s.heap H locs) (hA : ∀ q, s.heap.size ≤ q → A q) (hG : BG g A s s.heap) {y : MethodName} {wy : List Cond} {rm : Room} {As : List Value} {r : Int64} {mc ms : Nat} (hM : CtJ l y wy rm g As [] [] r mc ms) {index : Nat} {bytes : ByteArray} {maxL : Nat} {ret : Option FieldType} {n : Nat} (cw : CallB R s args own index y bytes maxL ret wy rm mc ms n ∧ (Cond.static y).before args s = true) {pc : Nat} {ls : Array Slot} {st rest : List Value} (hst : st = As.reverse ++ rest) (hn : As.length = n) (hsz : ls.size = nL) (hW : (rest.map fun v => v.category).sum ≤ 8) (hdg : decode cc pc = .ok (.invokestatic index, 3)) {k1 n1 : Nat} (hk : cells + mc = k1) (hns : slots + ms = n1) (hf : k1 ≤ R.cells ∧ n1 ≤ R.slots) (kk : ∀ (H1 : Heap) (locs1 : List Loc), va_P g.1 vwCl ws H1 → va_D A ws → va_S A s.heap H1 locs1 → W p l e R s m args below meth c H1 locs1 k1 n1 Q (F0 m (pc + 3) ls (.long r :: rest))) : W p l e R s m args below meth c H locs cells slots Q (F0 m pc ls st) := by
  subst hst; subst hk; subst hns
  have hFc : ∀ q, va_A [] H.size q → A q := va_free hD hS hA [] rfl
  refine va_calll (va_runS (As := As) (rest := rest) S (hM H.size) cw ⟨k_blind, fun U hU hW => ⟨rfl, by rw [hU], (fun k q h => by simp at h), va_K.moved hW.alike hK, ⟨fun i j p q h => by simp at h, fun k q h => by simp at h⟩, by rw [hU]; exact BG.warm hW ((hG.kept hS.2.1).narrow hFc)⟩⟩ rfl hn hsz rfl (lv_room hW) hdg hf) hS (fun q _ h => hFc q h) hFc (fun r1 u t H1 locs1 ht hvm hw hB hz1 hk1 hS1 => ?_)
  obtain ⟨hP1, _, hD1⟩ := hB
  rw [ht] at hP1
  subst hw
  refine kk H1 locs1 (hP.kept (fun k q hq => hk1 q.1 (k_lt hP hq) ?_)) hD hS1
  intro h9
  rcases h9 with ⟨k9, e9, h9⟩ | h9
  · simp at h9
  · exact absurd (k_lt hP hq) (Nat.not_lt.mpr h9)
theorem k_svW {cc : ByteArray} {nL : Nat} {Ts : List Cond} {own : String} (S : CallFix p m c cc nL s args Ts own) {ws w1 : va_W} (hK : va_K g.1 vwCl (tyL g) s) (hP : va_P g.1 vwCl ws H) (hD : va_D A ws) (hS : va_S A s.heap H locs) (hA : ∀ q, s.heap.size ≤ q → A q) (hG : BG g A s s.heap) {y : MethodName} {wy : List Cond} {rm : Room} {As : List Value} {mc ms : Nat} (hM : CtV l y wy rm g As ws w1 mc ms) {index : Nat} {bytes : ByteArray} {maxL : Nat} {ret : Option FieldType} {n : Nat} (cw : CallB R s args own index y bytes maxL ret wy rm mc ms n ∧ (Cond.static y).before args s = true) {pc : Nat} {ls : Array Slot} {st rest : List Value} (hst : st = As.reverse ++ rest) (hn : As.length = n) (hsz : ls.size = nL) (hW : (rest.map fun v => v.category).sum ≤ 8) (hdg : decode cc pc = .ok (.invokestatic index, 3)) {k1 n1 : Nat} (hk : cells + mc = k1) (hns : slots + ms = n1) (hf : k1 ≤ R.cells ∧ n1 ≤ R.slots) (kk : ∀ (H1 : Heap) (locs1 : List Loc), va_P g.1 vwCl w1 H1 → va_D A w1 → va_S A s.heap H1 locs1 → W p l e R s m args below meth c H1 locs1 k1 n1 Q (F0 m (pc + 3) ls rest)) : W p l e R s m args below meth c H locs cells slots Q (F0 m pc ls st) := by
  subst hst; subst hk; subst hns
  have hFc := k_free hD hS hA
  refine va_callv (va_runS (As := As) (rest := rest) S (hM H.size) cw ⟨k_blind, fun U hU hW => ⟨rfl, by rw [hU], by rw [hU]; exact hP, va_K.moved hW.alike hK, hD.weaken (fun _ _ _ _ => trivial), by rw [hU]; exact BG.warm hW ((hG.kept hS.2.1).narrow hFc)⟩⟩ rfl hn hsz rfl (lv_room hW) hdg hf) hS (fun q _ h => hFc q h) hFc (fun u t H1 locs1 ht hvm hw hB hz1 hk1 hS1 => ?_)
  obtain ⟨hP1, _, hD1⟩ := hB
  rw [ht] at hP1
  exact kk H1 locs1 hP1 (hD1.weaken (fun _ _ _ h => hFc _ h)) hS1
theorem k_svP {cc : ByteArray} {nL : Nat} {Ts : List Cond} {own : String} (S : CallFix p m c cc nL s args Ts own) {ws wc wr w1 w2 : va_W} (hK : va_K g.1 vwCl (tyL g) s) (hP : va_P g.1 vwCl ws H) (hD : va_D A ws) (hS : va_S A s.heap H locs) (hA : ∀ q, s.heap.size ≤ q → A q) (hG : BG g A s s.heap) {y : MethodName} {wy : List Cond} {rm : Room} {As : List Value} {mc ms : Nat} (hM : CtV l y wy rm g As wc w1 mc ms) {index : Nat} {bytes : ByteArray} {maxL : Nat} {ret : Option FieldType} {n : Nat} (cw : CallB R s args own index y bytes maxL ret wy rm mc ms n ∧ (Cond.static y).before args s = true) (isC isR isP : List Nat) (hC : isC.map (fun i => ws[i]?) = wc.map some) (hR : isR.map (fun i => ws[i]?) = wr.map some) (hnC : va_nd isC = true) (hn1 : va_nd isR = true) (hdis : ∀ i ∈ isR, i ∉ isC) (hp1 : isP.filterMap (fun i => (wr ++ w1)[i]?) = w2) (hp2 : isP.map (fun i => (wr ++ w1)[i]?) = w2.map some) (hn2 : va_nd isP = true) {pc : Nat} {ls : Array Slot} {st rest : List Value} (hst : st = As.reverse ++ rest) (hn : As.length = n) (hsz : ls.size = nL) (hW : (rest.map fun v => v.category).sum ≤ 8) (hdg : decode cc pc = .ok (.invokestatic index, 3)) {k1 n1 : Nat} (hk : cells + mc = k1) (hns : slots + ms = n1) (hf : k1 ≤ R.cells ∧ n1 ≤ R.slots) (kk : ∀ (H1 : Heap) (locs1 : List Loc), va_P g.1 vwCl w2 H1 → va_D A w2 → va_S A s.heap H1 locs1 → W p l e R s m args below meth c H1 locs1 k1 n1 Q (F0 m (pc + 3) ls rest)) : W p l e R s m args below meth c H locs cells slots Q (F0 m pc ls st) := by
  subst hst; subst hk; subst hns
  have hFc : ∀ q, va_A wc H.size q → A q := va_free hD hS hA isC hC
  have hPc : va_P g.1 vwCl wc H := hP.sub isC (k_fm hC)
  have hDc : va_D (fun _ => True) wc := k_dsub hD isC hC hnC
  refine va_callv (va_runS (As := As) (rest := rest) S (hM H.size) cw ⟨k_blind, fun U hU hW => ⟨rfl, by rw [hU], by rw [hU]; exact hPc, va_K.moved hW.alike hK, hDc, by rw [hU]; exact BG.warm hW ((hG.kept hS.2.1).narrow hFc)⟩⟩ rfl hn hsz rfl (lv_room hW) hdg hf) hS (fun q _ h => hFc q h) hFc (fun u t H1 locs1 ht hvm hw hB hz1 hk1 hS1 => ?_)
  obtain ⟨hP1, _, hD1⟩ := hB
  rw [ht] at hP1
  obtain ⟨hP2, hD2⟩ := va_join hP hD isC isR hC hR hn1 hdis hk1 hFc hP1 hD1
  exact kk H1 locs1 (hP2.sub isP hp1) (hD2.sub isP hn2 hp2) hS1
theorem k_sv0 {cc : ByteArray} {nL : Nat} {Ts : List Cond} {own : String} (S : CallFix p m c cc nL s args Ts own) {ws : va_W} (hK : va_K g.1 vwCl (tyL g) s) (hP : va_P g.1 vwCl ws H) (hD : va_D A ws) (hS : va_S A s.heap H locs) (hA : ∀ q, s.heap.size ≤ q → A q) (hG : BG g A s s.heap) {y : MethodName} {wy : List Cond} {rm : Room} {As : List Value} {mc ms : Nat} (hM : CtV l y wy rm g As [] [] mc ms) {index : Nat} {bytes : ByteArray} {maxL : Nat} {ret : Option FieldType} {n : Nat} (cw : CallB R s args own index y bytes maxL ret wy rm mc ms n ∧ (Cond.static y).before args s = true) {pc : Nat} {ls : Array Slot} {st rest : List Value} (hst : st = As.reverse ++ rest) (hn : As.length = n) (hsz : ls.size = nL) (hW : (rest.map fun v => v.category).sum ≤ 8) (hdg : decode cc pc = .ok (.invokestatic index, 3)) {k1 n1 : Nat} (hk : cells + mc = k1) (hns : slots + ms = n1) (hf : k1 ≤ R.cells ∧ n1 ≤ R.slots) (kk : ∀ (H1 : Heap) (locs1 : List Loc), va_P g.1 vwCl ws H1 → va_D A ws → va_S A s.heap H1 locs1 → W p l e R s m args below meth c H1 locs1 k1 n1 Q (F0 m (pc + 3) ls rest)) : W p l e R s m args below meth c H locs cells slots Q (F0 m pc ls st) := by
  subst hst; subst hk; subst hns
  have hFc : ∀ q, va_A [] H.size q → A q := va_free hD hS hA [] rfl
  refine va_callv (va_runS (As := As) (rest := rest) S (hM H.size) cw ⟨k_blind, fun U hU hW => ⟨rfl, by rw [hU], (fun k q h => by simp at h), va_K.moved hW.alike hK, ⟨fun i j p q h => by simp at h, fun k q h => by simp at h⟩, by rw [hU]; exact BG.warm hW ((hG.kept hS.2.1).narrow hFc)⟩⟩ rfl hn hsz rfl (lv_room hW) hdg hf) hS (fun q _ h => hFc q h) hFc (fun u t H1 locs1 ht hvm hw hB hz1 hk1 hS1 => ?_)
  obtain ⟨hP1, _, hD1⟩ := hB
  rw [ht] at hP1
  refine kk H1 locs1 (hP.kept (fun k q hq => hk1 q.1 (k_lt hP hq) ?_)) hD hS1
  intro h9
  rcases h9 with ⟨k9, e9, h9⟩ | h9
  · simp at h9
  · exact absurd (k_lt hP hq) (Nat.not_lt.mpr h9)
end
