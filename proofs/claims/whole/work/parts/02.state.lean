/-! What a state of the system is: modules (an object with its own arrays) and their values; contracts over modules; calls. -/
abbrev Gx : Type := va_G × ClassId × ClassId × ClassId × ClassId
abbrev tyL (g : Gx) : List (ClassId × FieldType) := [(g.2.1, .int), (g.2.2.1, .long), (g.2.2.2.1, .boolean), (g.2.2.2.2, .object "FaultTests$Setup")]
abbrev Vs : Type := (Nat → Int32) × (Nat → Nat → Int32) × (Nat → Nat → Int64)
def sF (v : Vs) (k : Nat) (x : Int32) : Vs := (upd v.1 k x, v.2)
def sI (v : Vs) (k i : Nat) (x : Int32) : Vs := (v.1, (fun j => if j = k then upd (v.2.1 k) i x else v.2.1 j), v.2.2)
def sA (v : Vs) (k : Nat) (f : Nat → Int32) : Vs := (v.1, (fun j => if j = k then f else v.2.1 j), v.2.2)
def sJ (v : Vs) (k i : Nat) (x : Int64) : Vs := (v.1, v.2.1, (fun j => if j = k then vp_updL (v.2.2 k) i x else v.2.2 j))
def fcM (b : Nat → Nat) (v : Vs) : List Value := [.int (v.1 0), .ref (b 2), .ref (b 3), .int (v.1 3), .int (v.1 4), .ref (b 6), .ref (b 7), .ref (b 8), .ref (b 9), .ref (b 10), .ref (b 11), .ref (b 12), .int (v.1 12), .int (v.1 13), .int (v.1 14), .int (v.1 15), .int (v.1 16), .int (v.1 17), .int (v.1 18), .ref (b 20), .ref (b 21), .ref (b 22), .ref (b 23)]
def cM (g : Gx) (b : Nat → Nat) (v : Vs) : va_W := [(b 0, .inr (8, fcM b v)), (b 2, .inl (g.2.1, 3960, .inl (v.2.1 1))), (b 3, .inl (g.2.1, 440, .inl (v.2.1 2))), (b 6, .inl (g.2.1, 24, .inl (v.2.1 5))), (b 7, .inl (g.2.1, 8, .inl (v.2.1 6))), (b 8, .inl (g.2.1, 24, .inl (v.2.1 7))), (b 9, .inl (g.2.1, 24, .inl (v.2.1 8))), (b 10, .inl (g.2.1, 56, .inl (v.2.1 9))), (b 11, .inl (g.2.1, 14592, .inl (v.2.1 10))), (b 12, .inl (g.2.1, 800, .inl (v.2.1 11))), (b 20, .inl (g.2.2.2.1, 24, .inl (v.2.1 19))), (b 21, .inl (g.2.1, 6, .inl (v.2.1 20))), (b 22, .inl (g.2.2.2.1, 57, .inl (v.2.1 21))), (b 23, .inl (g.2.1, 729, .inl (v.2.1 22)))]
def fcC (b : Nat → Nat) (v : Vs) : List Value := [.int (v.1 0), .int (v.1 1), .int (v.1 2), .int (v.1 3), .ref (b 5), .ref (b 6), .ref (b 7), .ref (b 8), .ref (b 9), .ref (b 10), .ref (b 11), .ref (b 12), .ref (b 13), .ref (b 14)]
def cC (g : Gx) (b : Nat → Nat) (v : Vs) : va_W := [(b 0, .inr (0, fcC b v)), (b 5, .inl (g.2.1, 24, .inl (v.2.1 4))), (b 6, .inl (g.2.1, 24, .inl (v.2.1 5))), (b 7, .inl (g.2.1, 96, .inl (v.2.1 6))), (b 8, .inl (g.2.1, 24, .inl (v.2.1 7))), (b 9, .inl (g.2.1, 24, .inl (v.2.1 8))), (b 10, .inl (g.2.1, 24, .inl (v.2.1 9))), (b 11, .inl (g.2.1, 6, .inl (v.2.1 10))), (b 12, .inl (g.2.1, 8, .inl (v.2.1 11))), (b 13, .inl (g.2.1, 8, .inl (v.2.1 12))), (b 14, .inl (g.2.1, 8, .inl (v.2.1 13)))]
def fcT (b : Nat → Nat) (v : Vs) : List Value := [.int (v.1 0), .ref (b 2), .ref (b 3), .ref (b 4), .ref (b 5)]
def cT (g : Gx) (b : Nat → Nat) (v : Vs) : va_W := [(b 0, .inr (6, fcT b v)), (b 2, .inl (g.2.1, 16, .inl (v.2.1 1))), (b 3, .inl (g.2.1, 16, .inl (v.2.1 2))), (b 4, .inl (g.2.1, 6, .inl (v.2.1 3))), (b 5, .inl (g.2.1, 6, .inl (v.2.1 4)))]
def fcL (b : Nat → Nat) (v : Vs) : List Value := [.ref (b 1), .ref (b 2)]
def cL (g : Gx) (b : Nat → Nat) (v : Vs) : va_W := [(b 0, .inr (2, fcL b v)), (b 1, .inl (g.2.2.1, 24, .inr (.inl (v.2.2 0)))), (b 2, .inl (g.2.2.1, 24, .inr (.inl (v.2.2 1))))]
def fcR (b : Nat → Nat) (q0 q1 : Nat) (v : Vs) : List Value := [.ref q0, .ref q1, .ref (b 3), .ref (b 4), .int (v.1 4)]
def cR (g : Gx) (b : Nat → Nat) (n : Nat) (q0 q1 : Nat) (v : Vs) : va_W := [(b 0, .inr (3, fcR b q0 q1 v)), (b 3, .inl (g.2.2.1, n, .inr (.inl (v.2.2 2)))), (b 4, .inl (g.2.2.1, n, .inr (.inl (v.2.2 3))))]
def fcS (b : Nat → Nat) (q0 q1 : Nat) : List Value := [.ref q0, .ref q1]
def cS (g : Gx) (b : Nat → Nat) (q0 q1 : Nat) : va_W := [(b 0, .inr (4, fcS b q0 q1))]
def fcD (b : Nat → Nat) (q0 : Nat) (v : Vs) : List Value := [.ref q0, .int (v.1 1), .int (v.1 2), .ref (b 4), .int (v.1 4), .int (v.1 5), .int (v.1 6), .int (v.1 7), .int (v.1 8), .int (v.1 9)]
def cD (g : Gx) (b : Nat → Nat) (q0 : Nat) (v : Vs) : va_W := [(b 0, .inr (5, fcD b q0 v)), (b 4, .inl (g.2.1, 800, .inl (v.2.1 3)))]
def fcF (b : Nat → Nat) (q0 q1 q2 q3 q4 : Nat) (v : Vs) : List Value := [.ref q0, .ref q1, .ref q2, .ref q3, .ref q4, .int (v.1 5), .int (v.1 6), .ref (b 8), .ref (b 9), .ref (b 10), .ref (b 11), .ref (b 12)]
def cF (g : Gx) (b : Nat → Nat) (q0 q1 q2 q3 q4 : Nat) (v : Vs) : va_W := [(b 0, .inr (7, fcF b q0 q1 q2 q3 q4 v)), (b 8, .inl (g.2.1, 57, .inl (v.2.1 7))), (b 9, .inl (g.2.1, 729, .inl (v.2.1 8))), (b 10, .inl (g.2.2.1, 16, .inr (.inl (v.2.2 9)))), (b 11, .inl (g.2.2.1, 16, .inr (.inl (v.2.2 10)))), (b 12, .inl (g.2.2.1, 256, .inr (.inl (v.2.2 11))))]

/-! pure programs: guards, names, calls, joins, loops -/
def inb (i : Int32) (n : Nat) : Bool := !(decide (i < 0)) && decide (i.toNatClampNeg < n)
def isB (x : Int32) : Bool := decide (x = 0) || decide (x = 1)
def nz (x : Int32) : Bool := !(decide (x = 0))
def gd {α : Type} (c : Bool) (k : Option α) : Option α := match c with
  | true => k
  | false => none
theorem gd_at {α : Type} {c : Bool} {k : Option α} {r : α} (h : gd c k = some r) : c = true ∧ k = some r := by
  cases c with
  | true => exact ⟨rfl, h⟩
  | false => exact absurd h (by simp [gd])
theorem inb_in {i : Int32} {n : Nat} (h : inb i n = true) : vp_in i n := by
  simp only [inb, Bool.and_eq_true, Bool.not_eq_true', decide_eq_false_iff_not, decide_eq_true_eq] at h
  intro q
  rcases q with q | q
  · exact h.1 q
  · omega
theorem gd_in {α : Type} {i : Int32} {n : Nat} {k : Option α} {r : α} (h : gd (inb i n) k = some r) : vp_in i n ∧ k = some r := ⟨inb_in (gd_at h).1, (gd_at h).2⟩
theorem kp_2 {α β : Type} {a c : α} {b d : β} (h : some (a, b) = some (c, d)) : a = c ∧ b = d := Prod.mk.inj (Option.some.inj h)
theorem kp_3 {α β γ : Type} {a a1 : α} {b b1 : β} {c c1 : γ} (h : some (a, b, c) = some (a1, b1, c1)) : a = a1 ∧ b = b1 ∧ c = c1 := by cases h; exact ⟨rfl, rfl, rfl⟩
theorem kp_4 {α β γ δ : Type} {a a1 : α} {b b1 : β} {c c1 : γ} {d d1 : δ} (h : some (a, b, c, d) = some (a1, b1, c1, d1)) : a = a1 ∧ b = b1 ∧ c = c1 ∧ d = d1 := by cases h; exact ⟨rfl, rfl, rfl, rfl⟩
def ius (x y : Int32) : Int32 := (x.toUInt32 >>> (y.toUInt32 &&& Int32.toUInt32 31)).toInt32
def lus (x : Int64) (y : Int32) : Int64 := (x.toUInt64 >>> (y.toInt64.toUInt64 &&& Int64.toUInt64 63)).toInt64
theorem gd_nz {α : Type} {x : Int32} {k : Option α} {r : α} (h : gd (nz x) k = some r) : ¬ x = 0 ∧ k = some r := ⟨by have := (gd_at h).1; simpa [nz] using this, (gd_at h).2⟩
theorem gd_isB {α : Type} {x : Int32} {k : Option α} {r : α} (h : gd (isB x) k = some r) : (x = 0 ∨ x = 1) ∧ k = some r := ⟨by have := (gd_at h).1; simpa [isB] using this, (gd_at h).2⟩
def bn {α β : Type} (x : α) (k : α → β) : β := k x
theorem bn_at {α β : Type} {x : α} {k : α → β} {r : β} (h : bn x k = r) {y : α} (e : y = x) : k y = r := by rw [e]; exact h
def o1 {α β : Type} (x : Option α) (k : α → Option β) : Option β := match x with
  | none => none
  | some a => k a
def o2 {α β γ : Type} (x : Option (α × β)) (k : α → β → Option γ) : Option γ := match x with
  | none => none
  | some (a, b) => k a b
def o3 {α β γ δ : Type} (x : Option (α × β × γ)) (k : α → β → γ → Option δ) : Option δ := match x with
  | none => none
  | some (a, b, c) => k a b c
def o4 {α β γ δ ε : Type} (x : Option (α × β × γ × δ)) (k : α → β → γ → δ → Option ε) : Option ε := match x with
  | none => none
  | some (a, b, c, d) => k a b c d
theorem o1_at {α β : Type} {x : Option α} {k : α → Option β} {r : β} (h : o1 x k = some r) : ∃ a, x = some a ∧ k a = some r := by
  cases x with
  | none => cases h
  | some a => exact ⟨a, rfl, h⟩
theorem o2_at {α β γ : Type} {x : Option (α × β)} {k : α → β → Option γ} {r : γ} (h : o2 x k = some r) : ∃ a b, x = some (a, b) ∧ k a b = some r := by
  cases x with
  | none => cases h
  | some a => exact ⟨a.1, a.2, rfl, h⟩
theorem o3_at {α β γ δ : Type} {x : Option (α × β × γ)} {k : α → β → γ → Option δ} {r : δ} (h : o3 x k = some r) : ∃ a b c, x = some (a, b, c) ∧ k a b c = some r := by
  cases x with
  | none => cases h
  | some a => exact ⟨a.1, a.2.1, a.2.2, rfl, h⟩
theorem o4_at {α β γ δ ε : Type} {x : Option (α × β × γ × δ)} {k : α → β → γ → δ → Option ε} {r : ε} (h : o4 x k = some r) : ∃ a b c d, x = some (a, b, c, d) ∧ k a b c d = some r := by
  cases x with
  | none => cases h
  | some a => exact ⟨a.1, a.2.1, a.2.2.1, a.2.2.2, rfl, h⟩
def jn {T β : Type} (K : T) (B : T → β) : β := B K
theorem jn_at {T β : Type} {K : T} {B : T → Option β} {r : β} (h : jn K B = some r) : ∃ k, k = K ∧ B k = some r := ⟨K, rfl, h⟩
def lp {T : Type} (body : T → T) (bot : T) : Nat → T
  | 0 => bot
  | n + 1 => body (lp body bot n)
def FU : Nat := 1000000
theorem lp_ind {T : Type} {body : T → T} {bot : T} (P : T → Prop) (h0 : P bot) (hs : ∀ f, P f → P (body f)) (n : Nat) : P (lp body bot n) := by
  induction n with
  | zero => exact h0
  | succ n ih => exact hs _ ih
theorem it_t {α : Type} {c : Prop} [Decidable c] {a b r : α} (h : (if c then a else b) = r) (hc : c) : a = r := by rw [if_pos hc] at h; exact h
theorem it_f {α : Type} {c : Prop} [Decidable c] {a b r : α} (h : (if c then a else b) = r) (hc : ¬ c) : b = r := by rw [if_neg hc] at h; exact h

/-! contracts: the answer and the new values are known from the pure program -/
def wB (g : Gx) (ws : va_W) (sz : Nat) : State → Prop := fun U => U.heap.size = sz ∧ va_P g.1 vwCl ws U.heap ∧ va_K g.1 vwCl (tyL g) U ∧ va_D (fun _ => True) ws
def wE (g : Gx) (A : Nat → Prop) (ws : va_W) : State → Prop := fun t => va_P g.1 vwCl ws t.heap ∧ va_K g.1 vwCl (tyL g) t ∧ va_D A ws
abbrev qI (g : Gx) (A : Nat → Prop) (w1 : va_W) (r : Int32) : Array Value → State → Outcome → State → Prop := va_Qi (fun (r0 : Int32) (_ : Unit) => r0 = r) (fun _ => wE g A w1) A
abbrev qJ (g : Gx) (A : Nat → Prop) (w1 : va_W) (r : Int64) : Array Value → State → Outcome → State → Prop := va_Ql (fun (r0 : Int64) (_ : Unit) => r0 = r) (fun _ => wE g A w1) A
abbrev qD (g : Gx) (A : Nat → Prop) (w1 : va_W) (r : UInt64) : Array Value → State → Outcome → State → Prop := va_Qd (fun (r0 : UInt64) (_ : Unit) => r0 = r) (fun _ => wE g A w1) A
abbrev qV (g : Gx) (A : Nat → Prop) (w1 : va_W) : Array Value → State → Outcome → State → Prop := va_Qv (fun (_ : Unit) => True) (fun _ => wE g A w1) A
def CtI (l : Launch) (y : MethodName) (wy : List Cond) (rm : Room) (g : Gx) (av : List Value) (w0 w1 : va_W) (r : Int32) (mc ms : Nat) : Prop :=
  ∀ sz, Met l y wy rm (va_Pc av (wB g w0 sz)) (qI g (va_A w0 sz) w1 r) mc ms (va_A w0 sz)
def CtJ (l : Launch) (y : MethodName) (wy : List Cond) (rm : Room) (g : Gx) (av : List Value) (w0 w1 : va_W) (r : Int64) (mc ms : Nat) : Prop :=
  ∀ sz, Met l y wy rm (va_Pc av (wB g w0 sz)) (qJ g (va_A w0 sz) w1 r) mc ms (va_A w0 sz)
def CtD (l : Launch) (y : MethodName) (wy : List Cond) (rm : Room) (g : Gx) (av : List Value) (w0 w1 : va_W) (r : UInt64) (mc ms : Nat) : Prop :=
  ∀ sz, Met l y wy rm (va_Pc av (wB g w0 sz)) (qD g (va_A w0 sz) w1 r) mc ms (va_A w0 sz)
def CtV (l : Launch) (y : MethodName) (wy : List Cond) (rm : Room) (g : Gx) (av : List Value) (w0 w1 : va_W) (mc ms : Nat) : Prop :=
  ∀ sz, Met l y wy rm (va_Pc av (wB g w0 sz)) (qV g (va_A w0 sz) w1) mc ms (va_A w0 sz)
section
variable {p : Program} {l : Launch} {e : Env} {R : Room} {s : State} {m : MethodId} {args : Array Value} {below : List Frame} {meth : Method} {c : Code} {H : Heap} {locs : List Loc} {cells slots : Nat} {Q : State → Prop} {g : Gx} {A : Nat → Prop}
theorem k_free {ws : va_W} (hD : va_D A ws) (hS : va_S A s.heap H locs) (hA : ∀ q, s.heap.size ≤ q → A q) : ∀ q, va_A ws H.size q → A q := by
  intro q h
  rcases h with ⟨k, e, h⟩ | h
  · exact hD.2 k _ h
  · exact hA q (Nat.le_trans hS.1 h)
theorem k_blind {av : List Value} {w0 : va_W} {sz : Nat} : FrameBlind (va_Pc av (wB g w0 sz)) := fun a U g mk q => by
  obtain ⟨q0, q1, qP, qK, qD⟩ := q
  exact ⟨q0, q1, qP, va_K.moved (u := U) (U := U.calling g mk a) (Vm.Alike.refl U.vm) qK, qD⟩
theorem k_iret {cc : ByteArray} {r x : Int32} {w1 : va_W} (hx : p.tables.exec = Jvm.exec) (hb : c.code = cc) (hr : meth.sig.returnType = some .int) (hlocks : meth.locks = false) (hK : va_K g.1 vwCl (tyL g) s) (hP : va_P g.1 vwCl w1 H) (hD : va_D A w1) (hS : va_S A s.heap H locs) (hxr : x = r) {pc : Nat} {ls : Array Slot} (hdg : decode cc pc = .ok (.ireturn, 1)) : W p l e R s m args below meth c H locs cells slots (MQ below (qI g A w1 r) args s cells slots A) (F0 m pc ls [.int x]) :=
  W.iret hx hb hr (fun t ht hW => ⟨⟨x, (), rfl, hxr, by rw [ht]; exact hP, va_K.moved hW.alike hK, hD⟩, hS.F ht⟩) hS.2.2 hdg (hlocks := hlocks)
theorem k_zret {cc : ByteArray} {r x : Int32} {w1 : va_W} (hx : p.tables.exec = Jvm.exec) (hb : c.code = cc) (hr : meth.sig.returnType = some .boolean) (hlocks : meth.locks = false) (hK : va_K g.1 vwCl (tyL g) s) (hP : va_P g.1 vwCl w1 H) (hD : va_D A w1) (hS : va_S A s.heap H locs) (hxr : x = r) (h01 : x = 0 ∨ x = 1) {pc : Nat} {ls : Array Slot} (hdg : decode cc pc = .ok (.ireturn, 1)) : W p l e R s m args below meth c H locs cells slots (MQ below (qI g A w1 r) args s cells slots A) (F0 m pc ls [.int x]) :=
  W.zret hx hb hr (by rcases h01 with h | h <;> rw [h] <;> rfl) (fun t ht hW => ⟨⟨x, (), rfl, hxr, by rw [ht]; exact hP, va_K.moved hW.alike hK, hD⟩, hS.F ht⟩) hS.2.2 hdg (hlocks := hlocks)
theorem k_lret {cc : ByteArray} {r x : Int64} {w1 : va_W} (hx : p.tables.exec = Jvm.exec) (hb : c.code = cc) (hr : meth.sig.returnType = some .long) (hlocks : meth.locks = false) (hK : va_K g.1 vwCl (tyL g) s) (hP : va_P g.1 vwCl w1 H) (hD : va_D A w1) (hS : va_S A s.heap H locs) (hxr : x = r) {pc : Nat} {ls : Array Slot} (hdg : decode cc pc = .ok (.lreturn, 1)) : W p l e R s m args below meth c H locs cells slots (MQ below (qJ g A w1 r) args s cells slots A) (F0 m pc ls [.long x]) :=
  W.lret hx hb hr (fun t ht hW => ⟨⟨x, (), rfl, hxr, by rw [ht]; exact hP, va_K.moved hW.alike hK, hD⟩, hS.F ht⟩) hS.2.2 hdg (hlocks := hlocks)
theorem k_vret {cc : ByteArray} {w1 : va_W} (hx : p.tables.exec = Jvm.exec) (hb : c.code = cc) (hr : meth.sig.returnType = none) (hlocks : meth.locks = false) (hK : va_K g.1 vwCl (tyL g) s) (hP : va_P g.1 vwCl w1 H) (hD : va_D A w1) (hS : va_S A s.heap H locs) {pc : Nat} {ls : Array Slot} (hdg : decode cc pc = .ok (.return_, 1)) : W p l e R s m args below meth c H locs cells slots (MQ below (qV g A w1) args s cells slots A) (F0 m pc ls []) :=
  W.vret hx hb hr (fun t ht hW => ⟨⟨(), rfl, trivial, by rw [ht]; exact hP, va_K.moved hW.alike hK, hD⟩, hS.F ht⟩) hS.2.2 hdg (hlocks := hlocks)
theorem k_lt {ws : va_W} (hP : va_P g.1 vwCl ws H) {k : Nat} {q : Nat × va_E} (hq : ws[k]? = some q) : q.1 < H.size := vx_lt hP hq
theorem k_fm {ws wc : va_W} {is : List Nat} (h : is.map (fun i => ws[i]?) = wc.map some) : is.filterMap (fun i => ws[i]?) = wc := by
  induction is generalizing wc with
  | nil =>
    cases wc with
    | nil => rfl
    | cons a t => simp at h
  | cons i is ih =>
    cases wc with
    | nil => simp at h
    | cons a t =>
      simp only [List.map_cons, List.cons.injEq] at h
      rw [List.filterMap_cons, h.1]
      exact congrArg (a :: ·) (ih h.2)
theorem k_dsub {A0 : Nat → Prop} {ws wc : va_W} (hD : va_D A0 ws) (is : List Nat) (h : is.map (fun i => ws[i]?) = wc.map some) (hn : va_nd is = true) : va_D (fun _ => True) wc := (hD.sub is hn h).weaken (fun _ _ _ _ => trivial)
theorem k_viW {cc : ByteArray} {nL : Nat} {Ts : List Cond} {own : String} (S : CallFix p m c cc nL s args Ts own) {ws w1 : va_W} (hK : va_K g.1 vwCl (tyL g) s) (hP : va_P g.1 vwCl ws H) (hD : va_D A ws) (hS : va_S A s.heap H locs) (hA : ∀ q, s.heap.size ≤ q → A q) {y : MethodName} {wy : List Cond} {rm : Room} {As : List Value} {a : Nat} {r : Int32} {mc ms : Nat} (hM : CtI l y wy rm g (.ref a :: As) ws w1 r mc ms) {C : String} {index : Nat} {bytes : ByteArray} {maxL : Nat} {ret : Option FieldType} {n : Nat} (cw : CallW R s args own C index y bytes maxL ret wy rm mc ms n) {q0 ci : Nat} {fs : List Value} {q : vw_C} (hc : vwCl[ci]? = some q) (he : ws[q0]? = some (a, .inr (ci, fs))) (hq : q.1 = C) {pc : Nat} {ls : Array Slot} {st rest : List Value} (hst : st = As.reverse ++ .ref a :: rest) (hn : As.length = n) (hsz : ls.size = nL) (hW : (rest.map fun v => v.category).sum ≤ 8) (hdg : decode cc pc = .ok (.invokevirtual index, 3)) {k1 n1 : Nat} (hk : cells + mc = k1) (hns : slots + ms = n1) (hf : k1 ≤ R.cells ∧ n1 ≤ R.slots) (kk : ∀ (H1 : Heap) (locs1 : List Loc), va_P g.1 vwCl w1 H1 → va_D A w1 → va_S A s.heap H1 locs1 → W p l e R s m args below meth c H1 locs1 k1 n1 Q (F0 m (pc + 3) ls (.int r :: rest))) : W p l e R s m args below meth c H locs cells slots Q (F0 m pc ls st) := by
  subst hst; subst hk; subst hns
  subst hq
  have hFc := k_free hD hS hA
  refine va_calli (va_runV (As := As) (rest := rest) S (hM H.size) cw ⟨k_blind, va_recv hK hP hc he, fun U hU hW => ⟨rfl, by rw [hU], by rw [hU]; exact hP, va_K.moved hW.alike hK, hD.weaken (fun _ _ _ _ => trivial)⟩⟩ rfl hn hsz rfl (lv_room hW) hdg hf) hS (fun q _ h => hFc q h) hFc (fun r1 u t H1 locs1 ht hvm hw hB hz1 hk1 hS1 => ?_)
  obtain ⟨hP1, _, hD1⟩ := hB
  rw [ht] at hP1
  subst hw
  exact kk H1 locs1 hP1 (hD1.weaken (fun _ _ _ h => hFc _ h)) hS1
theorem k_viP {cc : ByteArray} {nL : Nat} {Ts : List Cond} {own : String} (S : CallFix p m c cc nL s args Ts own) {ws wc wr w1 w2 : va_W} (hK : va_K g.1 vwCl (tyL g) s) (hP : va_P g.1 vwCl ws H) (hD : va_D A ws) (hS : va_S A s.heap H locs) (hA : ∀ q, s.heap.size ≤ q → A q) {y : MethodName} {wy : List Cond} {rm : Room} {As : List Value} {a : Nat} {r : Int32} {mc ms : Nat} (hM : CtI l y wy rm g (.ref a :: As) wc w1 r mc ms) {C : String} {index : Nat} {bytes : ByteArray} {maxL : Nat} {ret : Option FieldType} {n : Nat} (cw : CallW R s args own C index y bytes maxL ret wy rm mc ms n) {q0 ci : Nat} {fs : List Value} {q : vw_C} (hc : vwCl[ci]? = some q) (he : ws[q0]? = some (a, .inr (ci, fs))) (hq : q.1 = C) (isC isR isP : List Nat) (hC : isC.map (fun i => ws[i]?) = wc.map some) (hR : isR.map (fun i => ws[i]?) = wr.map some) (hnC : va_nd isC = true) (hn1 : va_nd isR = true) (hdis : ∀ i ∈ isR, i ∉ isC) (hp1 : isP.filterMap (fun i => (wr ++ w1)[i]?) = w2) (hp2 : isP.map (fun i => (wr ++ w1)[i]?) = w2.map some) (hn2 : va_nd isP = true) {pc : Nat} {ls : Array Slot} {st rest : List Value} (hst : st = As.reverse ++ .ref a :: rest) (hn : As.length = n) (hsz : ls.size = nL) (hW : (rest.map fun v => v.category).sum ≤ 8) (hdg : decode cc pc = .ok (.invokevirtual index, 3)) {k1 n1 : Nat} (hk : cells + mc = k1) (hns : slots + ms = n1) (hf : k1 ≤ R.cells ∧ n1 ≤ R.slots) (kk : ∀ (H1 : Heap) (locs1 : List Loc), va_P g.1 vwCl w2 H1 → va_D A w2 → va_S A s.heap H1 locs1 → W p l e R s m args below meth c H1 locs1 k1 n1 Q (F0 m (pc + 3) ls (.int r :: rest))) : W p l e R s m args below meth c H locs cells slots Q (F0 m pc ls st) := by
  subst hst; subst hk; subst hns
  subst hq
  have hFc : ∀ q, va_A wc H.size q → A q := va_free hD hS hA isC hC
  have hPc : va_P g.1 vwCl wc H := hP.sub isC (k_fm hC)
  have hDc : va_D (fun _ => True) wc := k_dsub hD isC hC hnC
  refine va_calli (va_runV (As := As) (rest := rest) S (hM H.size) cw ⟨k_blind, va_recv hK hP hc he, fun U hU hW => ⟨rfl, by rw [hU], by rw [hU]; exact hPc, va_K.moved hW.alike hK, hDc⟩⟩ rfl hn hsz rfl (lv_room hW) hdg hf) hS (fun q _ h => hFc q h) hFc (fun r1 u t H1 locs1 ht hvm hw hB hz1 hk1 hS1 => ?_)
  obtain ⟨hP1, _, hD1⟩ := hB
  rw [ht] at hP1
  subst hw
  obtain ⟨hP2, hD2⟩ := va_join hP hD isC isR hC hR hn1 hdis hk1 hFc hP1 hD1
  exact kk H1 locs1 (hP2.sub isP hp1) (hD2.sub isP hn2 hp2) hS1
theorem k_vlW {cc : ByteArray} {nL : Nat} {Ts : List Cond} {own : String} (S : CallFix p m c cc nL s args Ts own) {ws w1 : va_W} (hK : va_K g.1 vwCl (tyL g) s) (hP : va_P g.1 vwCl ws H) (hD : va_D A ws) (hS : va_S A s.heap H locs) (hA : ∀ q, s.heap.size ≤ q → A q) {y : MethodName} {wy : List Cond} {rm : Room} {As : List Value} {a : Nat} {r : Int64} {mc ms : Nat} (hM : CtJ l y wy rm g (.ref a :: As) ws w1 r mc ms) {C : String} {index : Nat} {bytes : ByteArray} {maxL : Nat} {ret : Option FieldType} {n : Nat} (cw : CallW R s args own C index y bytes maxL ret wy rm mc ms n) {q0 ci : Nat} {fs : List Value} {q : vw_C} (hc : vwCl[ci]? = some q) (he : ws[q0]? = some (a, .inr (ci, fs))) (hq : q.1 = C) {pc : Nat} {ls : Array Slot} {st rest : List Value} (hst : st = As.reverse ++ .ref a :: rest) (hn : As.length = n) (hsz : ls.size = nL) (hW : (rest.map fun v => v.category).sum ≤ 8) (hdg : decode cc pc = .ok (.invokevirtual index, 3)) {k1 n1 : Nat} (hk : cells + mc = k1) (hns : slots + ms = n1) (hf : k1 ≤ R.cells ∧ n1 ≤ R.slots) (kk : ∀ (H1 : Heap) (locs1 : List Loc), va_P g.1 vwCl w1 H1 → va_D A w1 → va_S A s.heap H1 locs1 → W p l e R s m args below meth c H1 locs1 k1 n1 Q (F0 m (pc + 3) ls (.long r :: rest))) : W p l e R s m args below meth c H locs cells slots Q (F0 m pc ls st) := by
  subst hst; subst hk; subst hns
  subst hq
  have hFc := k_free hD hS hA
  refine va_calll (va_runV (As := As) (rest := rest) S (hM H.size) cw ⟨k_blind, va_recv hK hP hc he, fun U hU hW => ⟨rfl, by rw [hU], by rw [hU]; exact hP, va_K.moved hW.alike hK, hD.weaken (fun _ _ _ _ => trivial)⟩⟩ rfl hn hsz rfl (lv_room hW) hdg hf) hS (fun q _ h => hFc q h) hFc (fun r1 u t H1 locs1 ht hvm hw hB hz1 hk1 hS1 => ?_)
  obtain ⟨hP1, _, hD1⟩ := hB
  rw [ht] at hP1
  subst hw
  exact kk H1 locs1 hP1 (hD1.weaken (fun _ _ _ h => hFc _ h)) hS1
theorem k_vlP {cc : ByteArray} {nL : Nat} {Ts : List Cond} {own : String} (S : CallFix p m c cc nL s args Ts own) {ws wc wr w1 w2 : va_W} (hK : va_K g.1 vwCl (tyL g) s) (hP : va_P g.1 vwCl ws H) (hD : va_D A ws) (hS : va_S A s.heap H locs) (hA : ∀ q, s.heap.size ≤ q → A q) {y : MethodName} {wy : List Cond} {rm : Room} {As : List Value} {a : Nat} {r : Int64} {mc ms : Nat} (hM : CtJ l y wy rm g (.ref a :: As) wc w1 r mc ms) {C : String} {index : Nat} {bytes : ByteArray} {maxL : Nat} {ret : Option FieldType} {n : Nat} (cw : CallW R s args own C index y bytes maxL ret wy rm mc ms n) {q0 ci : Nat} {fs : List Value} {q : vw_C} (hc : vwCl[ci]? = some q) (he : ws[q0]? = some (a, .inr (ci, fs))) (hq : q.1 = C) (isC isR isP : List Nat) (hC : isC.map (fun i => ws[i]?) = wc.map some) (hR : isR.map (fun i => ws[i]?) = wr.map some) (hnC : va_nd isC = true) (hn1 : va_nd isR = true) (hdis : ∀ i ∈ isR, i ∉ isC) (hp1 : isP.filterMap (fun i => (wr ++ w1)[i]?) = w2) (hp2 : isP.map (fun i => (wr ++ w1)[i]?) = w2.map some) (hn2 : va_nd isP = true) {pc : Nat} {ls : Array Slot} {st rest : List Value} (hst : st = As.reverse ++ .ref a :: rest) (hn : As.length = n) (hsz : ls.size = nL) (hW : (rest.map fun v => v.category).sum ≤ 8) (hdg : decode cc pc = .ok (.invokevirtual index, 3)) {k1 n1 : Nat} (hk : cells + mc = k1) (hns : slots + ms = n1) (hf : k1 ≤ R.cells ∧ n1 ≤ R.slots) (kk : ∀ (H1 : Heap) (locs1 : List Loc), va_P g.1 vwCl w2 H1 → va_D A w2 → va_S A s.heap H1 locs1 → W p l e R s m args below meth c H1 locs1 k1 n1 Q (F0 m (pc + 3) ls (.long r :: rest))) : W p l e R s m args below meth c H locs cells slots Q (F0 m pc ls st) := by
  subst hst; subst hk; subst hns
  subst hq
  have hFc : ∀ q, va_A wc H.size q → A q := va_free hD hS hA isC hC
  have hPc : va_P g.1 vwCl wc H := hP.sub isC (k_fm hC)
  have hDc : va_D (fun _ => True) wc := k_dsub hD isC hC hnC
  refine va_calll (va_runV (As := As) (rest := rest) S (hM H.size) cw ⟨k_blind, va_recv hK hP hc he, fun U hU hW => ⟨rfl, by rw [hU], by rw [hU]; exact hPc, va_K.moved hW.alike hK, hDc⟩⟩ rfl hn hsz rfl (lv_room hW) hdg hf) hS (fun q _ h => hFc q h) hFc (fun r1 u t H1 locs1 ht hvm hw hB hz1 hk1 hS1 => ?_)
  obtain ⟨hP1, _, hD1⟩ := hB
  rw [ht] at hP1
  subst hw
  obtain ⟨hP2, hD2⟩ := va_join hP hD isC isR hC hR hn1 hdis hk1 hFc hP1 hD1
  exact kk H1 locs1 (hP2.sub isP hp1) (hD2.sub isP hn2 hp2) hS1
theorem k_vvW {cc : ByteArray} {nL : Nat} {Ts : List Cond} {own : String} (S : CallFix p m c cc nL s args Ts own) {ws w1 : va_W} (hK : va_K g.1 vwCl (tyL g) s) (hP : va_P g.1 vwCl ws H) (hD : va_D A ws) (hS : va_S A s.heap H locs) (hA : ∀ q, s.heap.size ≤ q → A q) {y : MethodName} {wy : List Cond} {rm : Room} {As : List Value} {a : Nat} {mc ms : Nat} (hM : CtV l y wy rm g (.ref a :: As) ws w1 mc ms) {C : String} {index : Nat} {bytes : ByteArray} {maxL : Nat} {ret : Option FieldType} {n : Nat} (cw : CallW R s args own C index y bytes maxL ret wy rm mc ms n) {q0 ci : Nat} {fs : List Value} {q : vw_C} (hc : vwCl[ci]? = some q) (he : ws[q0]? = some (a, .inr (ci, fs))) (hq : q.1 = C) {pc : Nat} {ls : Array Slot} {st rest : List Value} (hst : st = As.reverse ++ .ref a :: rest) (hn : As.length = n) (hsz : ls.size = nL) (hW : (rest.map fun v => v.category).sum ≤ 8) (hdg : decode cc pc = .ok (.invokevirtual index, 3)) {k1 n1 : Nat} (hk : cells + mc = k1) (hns : slots + ms = n1) (hf : k1 ≤ R.cells ∧ n1 ≤ R.slots) (kk : ∀ (H1 : Heap) (locs1 : List Loc), va_P g.1 vwCl w1 H1 → va_D A w1 → va_S A s.heap H1 locs1 → W p l e R s m args below meth c H1 locs1 k1 n1 Q (F0 m (pc + 3) ls rest)) : W p l e R s m args below meth c H locs cells slots Q (F0 m pc ls st) := by
  subst hst; subst hk; subst hns
  subst hq
  have hFc := k_free hD hS hA
  refine va_callv (va_runV (As := As) (rest := rest) S (hM H.size) cw ⟨k_blind, va_recv hK hP hc he, fun U hU hW => ⟨rfl, by rw [hU], by rw [hU]; exact hP, va_K.moved hW.alike hK, hD.weaken (fun _ _ _ _ => trivial)⟩⟩ rfl hn hsz rfl (lv_room hW) hdg hf) hS (fun q _ h => hFc q h) hFc (fun u t H1 locs1 ht hvm hw hB hz1 hk1 hS1 => ?_)
  obtain ⟨hP1, _, hD1⟩ := hB
  rw [ht] at hP1
  exact kk H1 locs1 hP1 (hD1.weaken (fun _ _ _ h => hFc _ h)) hS1
theorem k_vvP {cc : ByteArray} {nL : Nat} {Ts : List Cond} {own : String} (S : CallFix p m c cc nL s args Ts own) {ws wc wr w1 w2 : va_W} (hK : va_K g.1 vwCl (tyL g) s) (hP : va_P g.1 vwCl ws H) (hD : va_D A ws) (hS : va_S A s.heap H locs) (hA : ∀ q, s.heap.size ≤ q → A q) {y : MethodName} {wy : List Cond} {rm : Room} {As : List Value} {a : Nat} {mc ms : Nat} (hM : CtV l y wy rm g (.ref a :: As) wc w1 mc ms) {C : String} {index : Nat} {bytes : ByteArray} {maxL : Nat} {ret : Option FieldType} {n : Nat} (cw : CallW R s args own C index y bytes maxL ret wy rm mc ms n) {q0 ci : Nat} {fs : List Value} {q : vw_C} (hc : vwCl[ci]? = some q) (he : ws[q0]? = some (a, .inr (ci, fs))) (hq : q.1 = C) (isC isR isP : List Nat) (hC : isC.map (fun i => ws[i]?) = wc.map some) (hR : isR.map (fun i => ws[i]?) = wr.map some) (hnC : va_nd isC = true) (hn1 : va_nd isR = true) (hdis : ∀ i ∈ isR, i ∉ isC) (hp1 : isP.filterMap (fun i => (wr ++ w1)[i]?) = w2) (hp2 : isP.map (fun i => (wr ++ w1)[i]?) = w2.map some) (hn2 : va_nd isP = true) {pc : Nat} {ls : Array Slot} {st rest : List Value} (hst : st = As.reverse ++ .ref a :: rest) (hn : As.length = n) (hsz : ls.size = nL) (hW : (rest.map fun v => v.category).sum ≤ 8) (hdg : decode cc pc = .ok (.invokevirtual index, 3)) {k1 n1 : Nat} (hk : cells + mc = k1) (hns : slots + ms = n1) (hf : k1 ≤ R.cells ∧ n1 ≤ R.slots) (kk : ∀ (H1 : Heap) (locs1 : List Loc), va_P g.1 vwCl w2 H1 → va_D A w2 → va_S A s.heap H1 locs1 → W p l e R s m args below meth c H1 locs1 k1 n1 Q (F0 m (pc + 3) ls rest)) : W p l e R s m args below meth c H locs cells slots Q (F0 m pc ls st) := by
  subst hst; subst hk; subst hns
  subst hq
  have hFc : ∀ q, va_A wc H.size q → A q := va_free hD hS hA isC hC
  have hPc : va_P g.1 vwCl wc H := hP.sub isC (k_fm hC)
  have hDc : va_D (fun _ => True) wc := k_dsub hD isC hC hnC
  refine va_callv (va_runV (As := As) (rest := rest) S (hM H.size) cw ⟨k_blind, va_recv hK hP hc he, fun U hU hW => ⟨rfl, by rw [hU], by rw [hU]; exact hPc, va_K.moved hW.alike hK, hDc⟩⟩ rfl hn hsz rfl (lv_room hW) hdg hf) hS (fun q _ h => hFc q h) hFc (fun u t H1 locs1 ht hvm hw hB hz1 hk1 hS1 => ?_)
  obtain ⟨hP1, _, hD1⟩ := hB
  rw [ht] at hP1
  obtain ⟨hP2, hD2⟩ := va_join hP hD isC isR hC hR hn1 hdis hk1 hFc hP1 hD1
  exact kk H1 locs1 (hP2.sub isP hp1) (hD2.sub isP hn2 hp2) hS1
theorem k_siW {cc : ByteArray} {nL : Nat} {Ts : List Cond} {own : String} (S : CallFix p m c cc nL s args Ts own) {ws w1 : va_W} (hK : va_K g.1 vwCl (tyL g) s) (hP : va_P g.1 vwCl ws H) (hD : va_D A ws) (hS : va_S A s.heap H locs) (hA : ∀ q, s.heap.size ≤ q → A q) {y : MethodName} {wy : List Cond} {rm : Room} {As : List Value} {r : Int32} {mc ms : Nat} (hM : CtI l y wy rm g As ws w1 r mc ms) {index : Nat} {bytes : ByteArray} {maxL : Nat} {ret : Option FieldType} {n : Nat} (cw : CallB R s args own index y bytes maxL ret wy rm mc ms n ∧ (Cond.static y).before args s = true) {pc : Nat} {ls : Array Slot} {st rest : List Value} (hst : st = As.reverse ++ rest) (hn : As.length = n) (hsz : ls.size = nL) (hW : (rest.map fun v => v.category).sum ≤ 8) (hdg : decode cc pc = .ok (.invokestatic index, 3)) {k1 n1 : Nat} (hk : cells + mc = k1) (hns : slots + ms = n1) (hf : k1 ≤ R.cells ∧ n1 ≤ R.slots) (kk : ∀ (H1 : Heap) (locs1 : List Loc), va_P g.1 vwCl w1 H1 → va_D A w1 → va_S A s.heap H1 locs1 → W p l e R s m args below meth c H1 locs1 k1 n1 Q (F0 m (pc + 3) ls (.int r :: rest))) : W p l e R s m args below meth c H locs cells slots Q (F0 m pc ls st) := by
  subst hst; subst hk; subst hns
  have hFc := k_free hD hS hA
  refine va_calli (va_runS (As := As) (rest := rest) S (hM H.size) cw ⟨k_blind, fun U hU hW => ⟨rfl, by rw [hU], by rw [hU]; exact hP, va_K.moved hW.alike hK, hD.weaken (fun _ _ _ _ => trivial)⟩⟩ rfl hn hsz rfl (lv_room hW) hdg hf) hS (fun q _ h => hFc q h) hFc (fun r1 u t H1 locs1 ht hvm hw hB hz1 hk1 hS1 => ?_)
  obtain ⟨hP1, _, hD1⟩ := hB
  rw [ht] at hP1
  subst hw
  exact kk H1 locs1 hP1 (hD1.weaken (fun _ _ _ h => hFc _ h)) hS1
theorem k_siP {cc : ByteArray} {nL : Nat} {Ts : List Cond} {own : String} (S : CallFix p m c cc nL s args Ts own) {ws wc wr w1 w2 : va_W} (hK : va_K g.1 vwCl (tyL g) s) (hP : va_P g.1 vwCl ws H) (hD : va_D A ws) (hS : va_S A s.heap H locs) (hA : ∀ q, s.heap.size ≤ q → A q) {y : MethodName} {wy : List Cond} {rm : Room} {As : List Value} {r : Int32} {mc ms : Nat} (hM : CtI l y wy rm g As wc w1 r mc ms) {index : Nat} {bytes : ByteArray} {maxL : Nat} {ret : Option FieldType} {n : Nat} (cw : CallB R s args own index y bytes maxL ret wy rm mc ms n ∧ (Cond.static y).before args s = true) (isC isR isP : List Nat) (hC : isC.map (fun i => ws[i]?) = wc.map some) (hR : isR.map (fun i => ws[i]?) = wr.map some) (hnC : va_nd isC = true) (hn1 : va_nd isR = true) (hdis : ∀ i ∈ isR, i ∉ isC) (hp1 : isP.filterMap (fun i => (wr ++ w1)[i]?) = w2) (hp2 : isP.map (fun i => (wr ++ w1)[i]?) = w2.map some) (hn2 : va_nd isP = true) {pc : Nat} {ls : Array Slot} {st rest : List Value} (hst : st = As.reverse ++ rest) (hn : As.length = n) (hsz : ls.size = nL) (hW : (rest.map fun v => v.category).sum ≤ 8) (hdg : decode cc pc = .ok (.invokestatic index, 3)) {k1 n1 : Nat} (hk : cells + mc = k1) (hns : slots + ms = n1) (hf : k1 ≤ R.cells ∧ n1 ≤ R.slots) (kk : ∀ (H1 : Heap) (locs1 : List Loc), va_P g.1 vwCl w2 H1 → va_D A w2 → va_S A s.heap H1 locs1 → W p l e R s m args below meth c H1 locs1 k1 n1 Q (F0 m (pc + 3) ls (.int r :: rest))) : W p l e R s m args below meth c H locs cells slots Q (F0 m pc ls st) := by
  subst hst; subst hk; subst hns
  have hFc : ∀ q, va_A wc H.size q → A q := va_free hD hS hA isC hC
  have hPc : va_P g.1 vwCl wc H := hP.sub isC (k_fm hC)
  have hDc : va_D (fun _ => True) wc := k_dsub hD isC hC hnC
  refine va_calli (va_runS (As := As) (rest := rest) S (hM H.size) cw ⟨k_blind, fun U hU hW => ⟨rfl, by rw [hU], by rw [hU]; exact hPc, va_K.moved hW.alike hK, hDc⟩⟩ rfl hn hsz rfl (lv_room hW) hdg hf) hS (fun q _ h => hFc q h) hFc (fun r1 u t H1 locs1 ht hvm hw hB hz1 hk1 hS1 => ?_)
  obtain ⟨hP1, _, hD1⟩ := hB
  rw [ht] at hP1
  subst hw
  obtain ⟨hP2, hD2⟩ := va_join hP hD isC isR hC hR hn1 hdis hk1 hFc hP1 hD1
  exact kk H1 locs1 (hP2.sub isP hp1) (hD2.sub isP hn2 hp2) hS1
theorem k_si0 {cc : ByteArray} {nL : Nat} {Ts : List Cond} {own : String} (S : CallFix p m c cc nL s args Ts own) {ws : va_W} (hK : va_K g.1 vwCl (tyL g) s) (hP : va_P g.1 vwCl ws H) (hD : va_D A ws) (hS : va_S A s.heap H locs) (hA : ∀ q, s.heap.size ≤ q → A q) {y : MethodName} {wy : List Cond} {rm : Room} {As : List Value} {r : Int32} {mc ms : Nat} (hM : CtI l y wy rm g As [] [] r mc ms) {index : Nat} {bytes : ByteArray} {maxL : Nat} {ret : Option FieldType} {n : Nat} (cw : CallB R s args own index y bytes maxL ret wy rm mc ms n ∧ (Cond.static y).before args s = true) {pc : Nat} {ls : Array Slot} {st rest : List Value} (hst : st = As.reverse ++ rest) (hn : As.length = n) (hsz : ls.size = nL) (hW : (rest.map fun v => v.category).sum ≤ 8) (hdg : decode cc pc = .ok (.invokestatic index, 3)) {k1 n1 : Nat} (hk : cells + mc = k1) (hns : slots + ms = n1) (hf : k1 ≤ R.cells ∧ n1 ≤ R.slots) (kk : ∀ (H1 : Heap) (locs1 : List Loc), va_P g.1 vwCl ws H1 → va_D A ws → va_S A s.heap H1 locs1 → W p l e R s m args below meth c H1 locs1 k1 n1 Q (F0 m (pc + 3) ls (.int r :: rest))) : W p l e R s m args below meth c H locs cells slots Q (F0 m pc ls st) := by
  subst hst; subst hk; subst hns
  have hFc : ∀ q, va_A [] H.size q → A q := va_free hD hS hA [] rfl
  refine va_calli (va_runS (As := As) (rest := rest) S (hM H.size) cw ⟨k_blind, fun U hU hW => ⟨rfl, by rw [hU], (fun k q h => by simp at h), va_K.moved hW.alike hK, ⟨fun i j p q h => by simp at h, fun k q h => by simp at h⟩⟩⟩ rfl hn hsz rfl (lv_room hW) hdg hf) hS (fun q _ h => hFc q h) hFc (fun r1 u t H1 locs1 ht hvm hw hB hz1 hk1 hS1 => ?_)
  obtain ⟨hP1, _, hD1⟩ := hB
  rw [ht] at hP1
  subst hw
  refine kk H1 locs1 (hP.kept (fun k q hq => hk1 q.1 (k_lt hP hq) ?_)) hD hS1
  intro h9
  rcases h9 with ⟨k9, e9, h9⟩ | h9
  · simp at h9
  · exact absurd (k_lt hP hq) (Nat.not_lt.mpr h9)
theorem k_slW {cc : ByteArray} {nL : Nat} {Ts : List Cond} {own : String} (S : CallFix p m c cc nL s args Ts own) {ws w1 : va_W} (hK : va_K g.1 vwCl (tyL g) s) (hP : va_P g.1 vwCl ws H) (hD : va_D A ws) (hS : va_S A s.heap H locs) (hA : ∀ q, s.heap.size ≤ q → A q) {y : MethodName} {wy : List Cond} {rm : Room} {As : List Value} {r : Int64} {mc ms : Nat} (hM : CtJ l y wy rm g As ws w1 r mc ms) {index : Nat} {bytes : ByteArray} {maxL : Nat} {ret : Option FieldType} {n : Nat} (cw : CallB R s args own index y bytes maxL ret wy rm mc ms n ∧ (Cond.static y).before args s = true) {pc : Nat} {ls : Array Slot} {st rest : List Value} (hst : st = As.reverse ++ rest) (hn : As.length = n) (hsz : ls.size = nL) (hW : (rest.map fun v => v.category).sum ≤ 8) (hdg : decode cc pc = .ok (.invokestatic index, 3)) {k1 n1 : Nat} (hk : cells + mc = k1) (hns : slots + ms = n1) (hf : k1 ≤ R.cells ∧ n1 ≤ R.slots) (kk : ∀ (H1 : Heap) (locs1 : List Loc), va_P g.1 vwCl w1 H1 → va_D A w1 → va_S A s.heap H1 locs1 → W p l e R s m args below meth c H1 locs1 k1 n1 Q (F0 m (pc + 3) ls (.long r :: rest))) : W p l e R s m args below meth c H locs cells slots Q (F0 m pc ls st) := by
  subst hst; subst hk; subst hns
  have hFc := k_free hD hS hA
  refine va_calll (va_runS (As := As) (rest := rest) S (hM H.size) cw ⟨k_blind, fun U hU hW => ⟨rfl, by rw [hU], by rw [hU]; exact hP, va_K.moved hW.alike hK, hD.weaken (fun _ _ _ _ => trivial)⟩⟩ rfl hn hsz rfl (lv_room hW) hdg hf) hS (fun q _ h => hFc q h) hFc (fun r1 u t H1 locs1 ht hvm hw hB hz1 hk1 hS1 => ?_)
  obtain ⟨hP1, _, hD1⟩ := hB
  rw [ht] at hP1
  subst hw
  exact kk H1 locs1 hP1 (hD1.weaken (fun _ _ _ h => hFc _ h)) hS1
theorem k_slP {cc : ByteArray} {nL : Nat} {Ts : List Cond} {own : String} (S : CallFix p m c cc nL s args Ts own) {ws wc wr w1 w2 : va_W} (hK : va_K g.1 vwCl (tyL g) s) (hP : va_P g.1 vwCl ws H) (hD : va_D A ws) (hS : va_S A s.heap H locs) (hA : ∀ q, s.heap.size ≤ q → A q) {y : MethodName} {wy : List Cond} {rm : Room} {As : List Value} {r : Int64} {mc ms : Nat} (hM : CtJ l y wy rm g As wc w1 r mc ms) {index : Nat} {bytes : ByteArray} {maxL : Nat} {ret : Option FieldType} {n : Nat} (cw : CallB R s args own index y bytes maxL ret wy rm mc ms n ∧ (Cond.static y).before args s = true) (isC isR isP : List Nat) (hC : isC.map (fun i => ws[i]?) = wc.map some) (hR : isR.map (fun i => ws[i]?) = wr.map some) (hnC : va_nd isC = true) (hn1 : va_nd isR = true) (hdis : ∀ i ∈ isR, i ∉ isC) (hp1 : isP.filterMap (fun i => (wr ++ w1)[i]?) = w2) (hp2 : isP.map (fun i => (wr ++ w1)[i]?) = w2.map some) (hn2 : va_nd isP = true) {pc : Nat} {ls : Array Slot} {st rest : List Value} (hst : st = As.reverse ++ rest) (hn : As.length = n) (hsz : ls.size = nL) (hW : (rest.map fun v => v.category).sum ≤ 8) (hdg : decode cc pc = .ok (.invokestatic index, 3)) {k1 n1 : Nat} (hk : cells + mc = k1) (hns : slots + ms = n1) (hf : k1 ≤ R.cells ∧ n1 ≤ R.slots) (kk : ∀ (H1 : Heap) (locs1 : List Loc), va_P g.1 vwCl w2 H1 → va_D A w2 → va_S A s.heap H1 locs1 → W p l e R s m args below meth c H1 locs1 k1 n1 Q (F0 m (pc + 3) ls (.long r :: rest))) : W p l e R s m args below meth c H locs cells slots Q (F0 m pc ls st) := by
  subst hst; subst hk; subst hns
  have hFc : ∀ q, va_A wc H.size q → A q := va_free hD hS hA isC hC
  have hPc : va_P g.1 vwCl wc H := hP.sub isC (k_fm hC)
  have hDc : va_D (fun _ => True) wc := k_dsub hD isC hC hnC
  refine va_calll (va_runS (As := As) (rest := rest) S (hM H.size) cw ⟨k_blind, fun U hU hW => ⟨rfl, by rw [hU], by rw [hU]; exact hPc, va_K.moved hW.alike hK, hDc⟩⟩ rfl hn hsz rfl (lv_room hW) hdg hf) hS (fun q _ h => hFc q h) hFc (fun r1 u t H1 locs1 ht hvm hw hB hz1 hk1 hS1 => ?_)
  obtain ⟨hP1, _, hD1⟩ := hB
  rw [ht] at hP1
  subst hw
  obtain ⟨hP2, hD2⟩ := va_join hP hD isC isR hC hR hn1 hdis hk1 hFc hP1 hD1
  exact kk H1 locs1 (hP2.sub isP hp1) (hD2.sub isP hn2 hp2) hS1
theorem k_sl0 {cc : ByteArray} {nL : Nat} {Ts : List Cond} {own : String} (S : CallFix p m c cc nL s args Ts own) {ws : va_W} (hK : va_K g.1 vwCl (tyL g) s) (hP : va_P g.1 vwCl ws H) (hD : va_D A ws) (hS : va_S A s.heap H locs) (hA : ∀ q, s.heap.size ≤ q → A q) {y : MethodName} {wy : List Cond} {rm : Room} {As : List Value} {r : Int64} {mc ms : Nat} (hM : CtJ l y wy rm g As [] [] r mc ms) {index : Nat} {bytes : ByteArray} {maxL : Nat} {ret : Option FieldType} {n : Nat} (cw : CallB R s args own index y bytes maxL ret wy rm mc ms n ∧ (Cond.static y).before args s = true) {pc : Nat} {ls : Array Slot} {st rest : List Value} (hst : st = As.reverse ++ rest) (hn : As.length = n) (hsz : ls.size = nL) (hW : (rest.map fun v => v.category).sum ≤ 8) (hdg : decode cc pc = .ok (.invokestatic index, 3)) {k1 n1 : Nat} (hk : cells + mc = k1) (hns : slots + ms = n1) (hf : k1 ≤ R.cells ∧ n1 ≤ R.slots) (kk : ∀ (H1 : Heap) (locs1 : List Loc), va_P g.1 vwCl ws H1 → va_D A ws → va_S A s.heap H1 locs1 → W p l e R s m args below meth c H1 locs1 k1 n1 Q (F0 m (pc + 3) ls (.long r :: rest))) : W p l e R s m args below meth c H locs cells slots Q (F0 m pc ls st) := by
  subst hst; subst hk; subst hns
  have hFc : ∀ q, va_A [] H.size q → A q := va_free hD hS hA [] rfl
  refine va_calll (va_runS (As := As) (rest := rest) S (hM H.size) cw ⟨k_blind, fun U hU hW => ⟨rfl, by rw [hU], (fun k q h => by simp at h), va_K.moved hW.alike hK, ⟨fun i j p q h => by simp at h, fun k q h => by simp at h⟩⟩⟩ rfl hn hsz rfl (lv_room hW) hdg hf) hS (fun q _ h => hFc q h) hFc (fun r1 u t H1 locs1 ht hvm hw hB hz1 hk1 hS1 => ?_)
  obtain ⟨hP1, _, hD1⟩ := hB
  rw [ht] at hP1
  subst hw
  refine kk H1 locs1 (hP.kept (fun k q hq => hk1 q.1 (k_lt hP hq) ?_)) hD hS1
  intro h9
  rcases h9 with ⟨k9, e9, h9⟩ | h9
  · simp at h9
  · exact absurd (k_lt hP hq) (Nat.not_lt.mpr h9)
theorem k_svW {cc : ByteArray} {nL : Nat} {Ts : List Cond} {own : String} (S : CallFix p m c cc nL s args Ts own) {ws w1 : va_W} (hK : va_K g.1 vwCl (tyL g) s) (hP : va_P g.1 vwCl ws H) (hD : va_D A ws) (hS : va_S A s.heap H locs) (hA : ∀ q, s.heap.size ≤ q → A q) {y : MethodName} {wy : List Cond} {rm : Room} {As : List Value} {mc ms : Nat} (hM : CtV l y wy rm g As ws w1 mc ms) {index : Nat} {bytes : ByteArray} {maxL : Nat} {ret : Option FieldType} {n : Nat} (cw : CallB R s args own index y bytes maxL ret wy rm mc ms n ∧ (Cond.static y).before args s = true) {pc : Nat} {ls : Array Slot} {st rest : List Value} (hst : st = As.reverse ++ rest) (hn : As.length = n) (hsz : ls.size = nL) (hW : (rest.map fun v => v.category).sum ≤ 8) (hdg : decode cc pc = .ok (.invokestatic index, 3)) {k1 n1 : Nat} (hk : cells + mc = k1) (hns : slots + ms = n1) (hf : k1 ≤ R.cells ∧ n1 ≤ R.slots) (kk : ∀ (H1 : Heap) (locs1 : List Loc), va_P g.1 vwCl w1 H1 → va_D A w1 → va_S A s.heap H1 locs1 → W p l e R s m args below meth c H1 locs1 k1 n1 Q (F0 m (pc + 3) ls rest)) : W p l e R s m args below meth c H locs cells slots Q (F0 m pc ls st) := by
  subst hst; subst hk; subst hns
  have hFc := k_free hD hS hA
  refine va_callv (va_runS (As := As) (rest := rest) S (hM H.size) cw ⟨k_blind, fun U hU hW => ⟨rfl, by rw [hU], by rw [hU]; exact hP, va_K.moved hW.alike hK, hD.weaken (fun _ _ _ _ => trivial)⟩⟩ rfl hn hsz rfl (lv_room hW) hdg hf) hS (fun q _ h => hFc q h) hFc (fun u t H1 locs1 ht hvm hw hB hz1 hk1 hS1 => ?_)
  obtain ⟨hP1, _, hD1⟩ := hB
  rw [ht] at hP1
  exact kk H1 locs1 hP1 (hD1.weaken (fun _ _ _ h => hFc _ h)) hS1
theorem k_svP {cc : ByteArray} {nL : Nat} {Ts : List Cond} {own : String} (S : CallFix p m c cc nL s args Ts own) {ws wc wr w1 w2 : va_W} (hK : va_K g.1 vwCl (tyL g) s) (hP : va_P g.1 vwCl ws H) (hD : va_D A ws) (hS : va_S A s.heap H locs) (hA : ∀ q, s.heap.size ≤ q → A q) {y : MethodName} {wy : List Cond} {rm : Room} {As : List Value} {mc ms : Nat} (hM : CtV l y wy rm g As wc w1 mc ms) {index : Nat} {bytes : ByteArray} {maxL : Nat} {ret : Option FieldType} {n : Nat} (cw : CallB R s args own index y bytes maxL ret wy rm mc ms n ∧ (Cond.static y).before args s = true) (isC isR isP : List Nat) (hC : isC.map (fun i => ws[i]?) = wc.map some) (hR : isR.map (fun i => ws[i]?) = wr.map some) (hnC : va_nd isC = true) (hn1 : va_nd isR = true) (hdis : ∀ i ∈ isR, i ∉ isC) (hp1 : isP.filterMap (fun i => (wr ++ w1)[i]?) = w2) (hp2 : isP.map (fun i => (wr ++ w1)[i]?) = w2.map some) (hn2 : va_nd isP = true) {pc : Nat} {ls : Array Slot} {st rest : List Value} (hst : st = As.reverse ++ rest) (hn : As.length = n) (hsz : ls.size = nL) (hW : (rest.map fun v => v.category).sum ≤ 8) (hdg : decode cc pc = .ok (.invokestatic index, 3)) {k1 n1 : Nat} (hk : cells + mc = k1) (hns : slots + ms = n1) (hf : k1 ≤ R.cells ∧ n1 ≤ R.slots) (kk : ∀ (H1 : Heap) (locs1 : List Loc), va_P g.1 vwCl w2 H1 → va_D A w2 → va_S A s.heap H1 locs1 → W p l e R s m args below meth c H1 locs1 k1 n1 Q (F0 m (pc + 3) ls rest)) : W p l e R s m args below meth c H locs cells slots Q (F0 m pc ls st) := by
  subst hst; subst hk; subst hns
  have hFc : ∀ q, va_A wc H.size q → A q := va_free hD hS hA isC hC
  have hPc : va_P g.1 vwCl wc H := hP.sub isC (k_fm hC)
  have hDc : va_D (fun _ => True) wc := k_dsub hD isC hC hnC
  refine va_callv (va_runS (As := As) (rest := rest) S (hM H.size) cw ⟨k_blind, fun U hU hW => ⟨rfl, by rw [hU], by rw [hU]; exact hPc, va_K.moved hW.alike hK, hDc⟩⟩ rfl hn hsz rfl (lv_room hW) hdg hf) hS (fun q _ h => hFc q h) hFc (fun u t H1 locs1 ht hvm hw hB hz1 hk1 hS1 => ?_)
  obtain ⟨hP1, _, hD1⟩ := hB
  rw [ht] at hP1
  obtain ⟨hP2, hD2⟩ := va_join hP hD isC isR hC hR hn1 hdis hk1 hFc hP1 hD1
  exact kk H1 locs1 (hP2.sub isP hp1) (hD2.sub isP hn2 hp2) hS1
end
