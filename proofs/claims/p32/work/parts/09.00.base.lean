/-! the pure layer: words for pure programs, small numbers, bits -/
def Ok {α : Type} (x : Option α) (Q : α → Prop) : Prop := ∃ a, x = some a ∧ Q a
theorem ok_some {α : Type} {a : α} {Q : α → Prop} (h : Q a) : Ok (some a) Q := ⟨a, rfl, h⟩
theorem ok_e {α : Type} {x : Option α} {a : α} {Q : α → Prop} (e : x = some a) (h : Q a) : Ok x Q := ⟨a, e, h⟩
theorem ok_imp {α : Type} {x : Option α} {Q R : α → Prop} (h : Ok x Q) (k : ∀ a, Q a → R a) : Ok x R := by
  obtain ⟨a, e, q⟩ := h
  exact ⟨a, e, k a q⟩
theorem ok_get {α : Type} {x : Option α} {b : α} (h : Ok x (fun a => a = b)) : x = some b := by
  obtain ⟨a, e, q⟩ := h
  rw [e, q]
theorem ok_rw {α : Type} {x y : Option α} {Q : α → Prop} (e : x = y) (h : Ok y Q) : Ok x Q := by rw [e]; exact h
theorem ok_gd {α : Type} {c : Bool} {k : Option α} {Q : α → Prop} (e : c = true) (h : Ok k Q) : Ok (gd c k) Q := by rw [e]; exact h
theorem ok_o1 {α β : Type} {x : Option α} {k : α → Option β} {P : α → Prop} {Q : β → Prop} (h : Ok x P) (hk : ∀ a, P a → Ok (k a) Q) : Ok (o1 x k) Q := by
  obtain ⟨a, e, q⟩ := h
  rw [e]
  exact hk a q
theorem ok_o2 {α β γ : Type} {x : Option (α × β)} {k : α → β → Option γ} {P : α × β → Prop} {Q : γ → Prop} (h : Ok x P) (hk : ∀ a b, P (a, b) → Ok (k a b) Q) : Ok (o2 x k) Q := by
  obtain ⟨⟨a, b⟩, e, q⟩ := h
  rw [e]
  exact hk a b q
theorem ok_o3 {α β γ δ : Type} {x : Option (α × β × γ)} {k : α → β → γ → Option δ} {P : α × β × γ → Prop} {Q : δ → Prop} (h : Ok x P) (hk : ∀ a b c, P (a, b, c) → Ok (k a b c) Q) : Ok (o3 x k) Q := by
  obtain ⟨⟨a, b, c⟩, e, q⟩ := h
  rw [e]
  exact hk a b c q
theorem ok_o4 {α β γ δ ε : Type} {x : Option (α × β × γ × δ)} {k : α → β → γ → δ → Option ε} {P : α × β × γ × δ → Prop} {Q : ε → Prop} (h : Ok x P) (hk : ∀ a b c d, P (a, b, c, d) → Ok (k a b c d) Q) : Ok (o4 x k) Q := by
  obtain ⟨⟨a, b, c, d⟩, e, q⟩ := h
  rw [e]
  exact hk a b c d q
theorem ok_o1e {α β : Type} {x : Option α} {k : α → Option β} {a : α} {Q : β → Prop} (e : x = some a) (hk : Ok (k a) Q) : Ok (o1 x k) Q := by rw [e]; exact hk
theorem ok_o2e {α β γ : Type} {x : Option (α × β)} {k : α → β → Option γ} {a : α} {b : β} {Q : γ → Prop} (e : x = some (a, b)) (hk : Ok (k a b) Q) : Ok (o2 x k) Q := by rw [e]; exact hk
theorem ok_o3e {α β γ δ : Type} {x : Option (α × β × γ)} {k : α → β → γ → Option δ} {a : α} {b : β} {c : γ} {Q : δ → Prop} (e : x = some (a, b, c)) (hk : Ok (k a b c) Q) : Ok (o3 x k) Q := by rw [e]; exact hk
theorem ok_bn {α β : Type} {x : α} {k : α → Option β} {Q : β → Prop} (h : Ok (k x) Q) : Ok (bn x k) Q := h
theorem ok_jn {T β : Type} {K : T} {B : T → Option β} {Q : β → Prop} (h : Ok (B K) Q) : Ok (jn K B) Q := h
theorem ok_j1 {α β : Type} {K : α → Option β} {B : (α → Option β) → Option β} {Q : β → Prop} (P : α → Prop) (hK : ∀ a, P a → Ok (K a) Q) (h : ∀ k : α → Option β, (∀ a, P a → Ok (k a) Q) → Ok (B k) Q) : Ok (jn K B) Q := h K hK
theorem ok_j2 {α γ β : Type} {K : α → γ → Option β} {B : (α → γ → Option β) → Option β} {Q : β → Prop} (P : α → γ → Prop) (hK : ∀ a b, P a b → Ok (K a b) Q) (h : ∀ k : α → γ → Option β, (∀ a b, P a b → Ok (k a b) Q) → Ok (B k) Q) : Ok (jn K B) Q := h K hK
theorem ok_j0 {β : Type} {K : Option β} {B : Option β → Option β} {Q : β → Prop} (P : Prop) (hK : P → Ok K Q) (h : ∀ k : Option β, (P → Ok k Q) → Ok (B k) Q) : Ok (jn K B) Q := h K hK
theorem zl1 {α β : Type} {body : (α → Option β) → α → Option β} {bot : α → Option β} {Q : β → Prop} (I : Nat → α → Prop) (hs : ∀ n a (self : α → Option β), I n a → (∀ m a', m < n → I m a' → Ok (self a') Q) → Ok (body self a) Q) : ∀ N n a, n < N → I n a → Ok (lp body bot N a) Q := by
  intro N
  induction N with
  | zero => intro n a h; omega
  | succ N ih => intro n a h hi; exact hs n a _ hi (fun m a' hm hi' => ih m a' (by omega) hi')
theorem zl2 {α γ β : Type} {body : (α → γ → Option β) → α → γ → Option β} {bot : α → γ → Option β} {Q : β → Prop} (I : Nat → α → γ → Prop) (hs : ∀ n a b (self : α → γ → Option β), I n a b → (∀ m a' b', m < n → I m a' b' → Ok (self a' b') Q) → Ok (body self a b) Q) : ∀ N n a b, n < N → I n a b → Ok (lp body bot N a b) Q := by
  intro N
  induction N with
  | zero => intro n a b h; omega
  | succ N ih => intro n a b h hi; exact hs n a b _ hi (fun m a' b' hm hi' => ih m a' b' (by omega) hi')
theorem zl3 {α γ δ β : Type} {body : (α → γ → δ → Option β) → α → γ → δ → Option β} {bot : α → γ → δ → Option β} {Q : β → Prop} (I : Nat → α → γ → δ → Prop) (hs : ∀ n a b c (self : α → γ → δ → Option β), I n a b c → (∀ m a' b' c', m < n → I m a' b' c' → Ok (self a' b' c') Q) → Ok (body self a b c) Q) : ∀ N n a b c, n < N → I n a b c → Ok (lp body bot N a b c) Q := by
  intro N
  induction N with
  | zero => intro n a b c h; omega
  | succ N ih => intro n a b c h hi; exact hs n a b c _ hi (fun m a' b' c' hm hi' => ih m a' b' c' (by omega) hi')
theorem zl4 {α γ δ ε β : Type} {body : (α → γ → δ → ε → Option β) → α → γ → δ → ε → Option β} {bot : α → γ → δ → ε → Option β} {Q : β → Prop} (I : Nat → α → γ → δ → ε → Prop) (hs : ∀ n a b c d (self : α → γ → δ → ε → Option β), I n a b c d → (∀ m a' b' c' d', m < n → I m a' b' c' d' → Ok (self a' b' c' d') Q) → Ok (body self a b c d) Q) : ∀ N n a b c d, n < N → I n a b c d → Ok (lp body bot N a b c d) Q := by
  intro N
  induction N with
  | zero => intro n a b c d h; omega
  | succ N ih => intro n a b c d h hi; exact hs n a b c d _ hi (fun m a' b' c' d' hm hi' => ih m a' b' c' d' (by omega) hi')
-- stepping
theorem z_l0 : (0 : Int32) = nI 0 := rfl
theorem z_l1 : (1 : Int32) = nI 1 := rfl
theorem z_l2 : (2 : Int32) = nI 2 := rfl
theorem z_l3 : (3 : Int32) = nI 3 := rfl
theorem z_l4 : (4 : Int32) = nI 4 := rfl
theorem z_l5 : (5 : Int32) = nI 5 := rfl
theorem z_l6 : (6 : Int32) = nI 6 := rfl
theorem z_l7 : (7 : Int32) = nI 7 := rfl
theorem z_l8 : (8 : Int32) = nI 8 := rfl
theorem z_l9 : (9 : Int32) = nI 9 := rfl
theorem z_l10 : (10 : Int32) = nI 10 := rfl
theorem z_l11 : (11 : Int32) = nI 11 := rfl
theorem z_l12 : (12 : Int32) = nI 12 := rfl
theorem z_l13 : (13 : Int32) = nI 13 := rfl
theorem z_l14 : (14 : Int32) = nI 14 := rfl
theorem z_l15 : (15 : Int32) = nI 15 := rfl
theorem z_l16 : (16 : Int32) = nI 16 := rfl
theorem z_l17 : (17 : Int32) = nI 17 := rfl
theorem z_l18 : (18 : Int32) = nI 18 := rfl
theorem z_l19 : (19 : Int32) = nI 19 := rfl
theorem z_l20 : (20 : Int32) = nI 20 := rfl
theorem z_l21 : (21 : Int32) = nI 21 := rfl
theorem z_l22 : (22 : Int32) = nI 22 := rfl
theorem z_l23 : (23 : Int32) = nI 23 := rfl
theorem z_l24 : (24 : Int32) = nI 24 := rfl
theorem z_l25 : (25 : Int32) = nI 25 := rfl
theorem z_l26 : (26 : Int32) = nI 26 := rfl
theorem z_l27 : (27 : Int32) = nI 27 := rfl
theorem z_l28 : (28 : Int32) = nI 28 := rfl
theorem z_l32 : (32 : Int32) = nI 32 := rfl
theorem z_l48 : (48 : Int32) = nI 48 := rfl
theorem z_l56 : (56 : Int32) = nI 56 := rfl
theorem z_l57 : (57 : Int32) = nI 57 := rfl
theorem z_l59 : (59 : Int32) = nI 59 := rfl
theorem z_l63 : (63 : Int32) = nI 63 := rfl
theorem z_l64 : (64 : Int32) = nI 64 := rfl
theorem z_l96 : (96 : Int32) = nI 96 := rfl
theorem z_l97 : (97 : Int32) = nI 97 := rfl
theorem z_l122 : (122 : Int32) = nI 122 := rfl
theorem z_l127 : (127 : Int32) = nI 127 := rfl
theorem z_l152 : (152 : Int32) = nI 152 := rfl
theorem z_l158 : (158 : Int32) = nI 158 := rfl
theorem z_l182 : (182 : Int32) = nI 182 := rfl
theorem z_l255 : (255 : Int32) = nI 255 := rfl
theorem z_l256 : (256 : Int32) = nI 256 := rfl
theorem z_l310 : (310 : Int32) = nI 310 := rfl
theorem z_l342 : (342 : Int32) = nI 342 := rfl
theorem z_l406 : (406 : Int32) = nI 406 := rfl
theorem z_l440 : (440 : Int32) = nI 440 := rfl
theorem z_l729 : (729 : Int32) = nI 729 := rfl
theorem z_l800 : (800 : Int32) = nI 800 := rfl
theorem z_l3960 : (3960 : Int32) = nI 3960 := rfl
theorem z_l14336 : (14336 : Int32) = nI 14336 := rfl
theorem z_l14592 : (14592 : Int32) = nI 14592 := rfl
theorem z_l100000 : (100000 : Int32) = nI 100000 := rfl
theorem z_gt {α : Type} (k : Option α) : gd true k = k := rfl
theorem z_o1 {α β : Type} (a : α) (k : α → Option β) : o1 (some a) k = k a := rfl
theorem z_o2 {α β γ : Type} (a : α) (b : β) (k : α → β → Option γ) : o2 (some (a, b)) k = k a b := rfl
theorem z_o3 {α β γ δ : Type} (a : α) (b : β) (c : γ) (k : α → β → γ → Option δ) : o3 (some (a, b, c)) k = k a b c := rfl
theorem z_o4 {α β γ δ ε : Type} (a : α) (b : β) (c : γ) (d : δ) (k : α → β → γ → δ → Option ε) : o4 (some (a, b, c, d)) k = k a b c d := rfl
theorem z_o5 {a0 a1 a2 a3 a4 δ : Type} (x0 : a0) (x1 : a1) (x2 : a2) (x3 : a3) (x4 : a4) (k : a0 → a1 → a2 → a3 → a4 → Option δ) : o5 (some (x0, x1, x2, x3, x4)) k = k x0 x1 x2 x3 x4 := rfl
theorem z_o6 {a0 a1 a2 a3 a4 a5 δ : Type} (x0 : a0) (x1 : a1) (x2 : a2) (x3 : a3) (x4 : a4) (x5 : a5) (k : a0 → a1 → a2 → a3 → a4 → a5 → Option δ) : o6 (some (x0, x1, x2, x3, x4, x5)) k = k x0 x1 x2 x3 x4 x5 := rfl
theorem z_o7 {a0 a1 a2 a3 a4 a5 a6 δ : Type} (x0 : a0) (x1 : a1) (x2 : a2) (x3 : a3) (x4 : a4) (x5 : a5) (x6 : a6) (k : a0 → a1 → a2 → a3 → a4 → a5 → a6 → Option δ) : o7 (some (x0, x1, x2, x3, x4, x5, x6)) k = k x0 x1 x2 x3 x4 x5 x6 := rfl
theorem z_o8 {a0 a1 a2 a3 a4 a5 a6 a7 δ : Type} (x0 : a0) (x1 : a1) (x2 : a2) (x3 : a3) (x4 : a4) (x5 : a5) (x6 : a6) (x7 : a7) (k : a0 → a1 → a2 → a3 → a4 → a5 → a6 → a7 → Option δ) : o8 (some (x0, x1, x2, x3, x4, x5, x6, x7)) k = k x0 x1 x2 x3 x4 x5 x6 x7 := rfl
theorem z_o9 {a0 a1 a2 a3 a4 a5 a6 a7 a8 δ : Type} (x0 : a0) (x1 : a1) (x2 : a2) (x3 : a3) (x4 : a4) (x5 : a5) (x6 : a6) (x7 : a7) (x8 : a8) (k : a0 → a1 → a2 → a3 → a4 → a5 → a6 → a7 → a8 → Option δ) : o9 (some (x0, x1, x2, x3, x4, x5, x6, x7, x8)) k = k x0 x1 x2 x3 x4 x5 x6 x7 x8 := rfl
theorem z_bn {α β : Type} (x : α) (k : α → β) : bn x k = k x := rfl
theorem z_jn {T β : Type} (K : T) (B : T → β) : jn K B = B K := rfl
theorem z_mul (a b : Nat) : nI a * nI b = nI (a * b) := (Int32.ofNat_mul a b).symm
theorem z_sub {a b : Nat} (h : b ≤ a) : nI a - nI b = nI (a - b) := (Int32.ofNat_sub a b h).symm
theorem z_div {a b : Nat} (ha : a < 2147483648) (hb : b < 2147483648) : nI a / nI b = nI (a / b) := (Int32.ofNat_div ha hb).symm
theorem z_cl {n : Nat} (h : n < 2147483648) : (nI n).toNatClampNeg = n := nI_clamp h
theorem z_le {a b : Nat} (ha : a < 2147483648) (hb : b < 2147483648) : (nI a ≤ nI b) = (a ≤ b) := propext (nI_leI ha hb)
theorem z_lt {a b : Nat} (ha : a < 2147483648) (hb : b < 2147483648) : (nI a < nI b) = (a < b) := propext (nI_ltI ha hb)
theorem z_eq {a b : Nat} (ha : a < 2147483648) (hb : b < 2147483648) : (nI a = nI b) = (a = b) := propext (nI_eq ha hb)
theorem z_inb {i n : Nat} (h : i < n) (hn : n < 2147483648) : inb (nI i) n = true := by
  have h1 := nI_in h hn
  simp only [inb, Bool.and_eq_true, Bool.not_eq_true', decide_eq_false_iff_not, decide_eq_true_eq]
  exact ⟨fun q => h1 (Or.inl q), by have := fun q => h1 (Or.inr q); omega⟩
theorem z_nz {n : Nat} (h0 : 0 < n) (h : n < 2147483648) : nz (nI n) = true := by
  simp [nz, nI_ne0 h0 h]
theorem z_isB0 : isB (nI 0) = true := by decide
theorem z_isB1 : isB (nI 1) = true := by decide
def im1 : Int32 := -1
theorem z_m1 : -(nI 1) = im1 := rfl
theorem z_pos {n : Nat} (h : n < 2147483648) : (im1 = nI n) = False := by
  apply eq_false
  intro q
  have := congrArg Int32.toInt q
  rw [nI_toInt h] at this
  have e : im1.toInt = -1 := by decide
  omega
theorem z_pos' {n : Nat} (h : n < 2147483648) : (nI n = im1) = False := by
  apply eq_false
  intro q
  exact (z_pos h).mp q.symm
theorem z_nle {n : Nat} (h : n < 2147483648) : (im1 < nI n) = True := by
  apply eq_true
  rw [Int32.lt_iff_toInt_lt, nI_toInt h]
  have e : im1.toInt = -1 := by decide
  omega
theorem z_nlt {n : Nat} (h : n < 2147483648) : (nI n < im1) = False := by
  apply eq_false
  rw [Int32.lt_iff_toInt_lt, nI_toInt h]
  have e : im1.toInt = -1 := by decide
  omega
theorem z_nle' {n : Nat} (h : n < 2147483648) : (nI n ≤ im1) = False := by
  apply eq_false
  rw [Int32.le_iff_toInt_le, nI_toInt h]
  have e : im1.toInt = -1 := by decide
  omega
theorem z_m1le {n : Nat} (h : n < 2147483648) : (im1 ≤ nI n) = True := by
  apply eq_true
  rw [Int32.le_iff_toInt_le, nI_toInt h]
  have e : im1.toInt = -1 := by decide
  omega
theorem z_m1a (n : Nat) : im1 + nI (n + 1) = nI n := by
  rw [show im1 = -1 from rfl, nI, Int32.ofNat_add, nI, Int32.add_comm]
  show Int32.ofNat n + 1 + -1 = _
  rw [Int32.add_assoc, show (1 : Int32) + -1 = 0 from rfl, Int32.add_zero]
theorem ift {α : Type} {a b : Nat} {x y : α} (h : a ≤ b) (hb : b < 2147483648) : (if nI a ≤ nI b then x else y) = x := if_pos (nI_le h hb)
theorem iff_ {α : Type} {a b : Nat} {x y : α} (h : ¬ a ≤ b) (ha : a < 2147483648) : (if nI a ≤ nI b then x else y) = y := if_neg (nI_ge (by omega) ha)
theorem ilt {α : Type} {a b : Nat} {x y : α} (h : a < b) (hb : b < 2147483648) : (if nI a < nI b then x else y) = x := if_pos (nI_lt h hb)
theorem ilf {α : Type} {a b : Nat} {x y : α} (h : ¬ a < b) (ha : a < 2147483648) : (if nI a < nI b then x else y) = y := if_neg (nI_nlt (by omega) ha)
theorem iet {α : Type} {a b : Nat} {x y : α} (h : a = b) : (if nI a = nI b then x else y) = x := if_pos (by rw [h])
theorem ief {α : Type} {a b : Nat} {x y : α} (h : ¬ a = b) (ha : a < 2147483648) (hb : b < 2147483648) : (if nI a = nI b then x else y) = y := if_neg (fun q => h ((nI_eq ha hb).mp q))
-- the state's rows
theorem z_sI0 (v : Vs) (k i : Nat) (x : Int32) : (sI v k i x).1 = v.1 := rfl
theorem z_sI1 (v : Vs) (k i : Nat) (x : Int32) : (sI v k i x).2.2 = v.2.2 := rfl
theorem z_sI2 (v : Vs) (k i : Nat) (x : Int32) : (sI v k i x).2.1 k = upd (v.2.1 k) i x := by simp [sI]
theorem z_sI3 (v : Vs) (k i : Nat) (x : Int32) {j : Nat} (h : j ≠ k) : (sI v k i x).2.1 j = v.2.1 j := by simp [sI, h]
theorem z_sJ0 (v : Vs) (k i : Nat) (x : Int64) : (sJ v k i x).1 = v.1 := rfl
theorem z_sJ1 (v : Vs) (k i : Nat) (x : Int64) : (sJ v k i x).2.1 = v.2.1 := rfl
theorem z_sJ2 (v : Vs) (k i : Nat) (x : Int64) : (sJ v k i x).2.2 k = vp_updL (v.2.2 k) i x := by simp [sJ]
theorem z_sJ3 (v : Vs) (k i : Nat) (x : Int64) {j : Nat} (h : j ≠ k) : (sJ v k i x).2.2 j = v.2.2 j := by simp [sJ, h]
theorem z_sF0 (v : Vs) (k : Nat) (x : Int32) : (sF v k x).2 = v.2 := rfl
theorem z_sF1 (v : Vs) (k : Nat) (x : Int32) : (sF v k x).1 k = x := by simp [sF, upd]
theorem z_sF2 (v : Vs) (k : Nat) (x : Int32) {j : Nat} (h : j ≠ k) : (sF v k x).1 j = v.1 j := by simp [sF, upd, h]
theorem z_sA0 (v : Vs) (k : Nat) (f : Nat → Int32) : (sA v k f).1 = v.1 := rfl
theorem z_sA1 (v : Vs) (k : Nat) (f : Nat → Int32) : (sA v k f).2.2 = v.2.2 := rfl
theorem z_sA2 (v : Vs) (k : Nat) (f : Nat → Int32) : (sA v k f).2.1 k = f := by simp [sA]
theorem z_sA3 (v : Vs) (k : Nat) (f : Nat → Int32) {j : Nat} (h : j ≠ k) : (sA v k f).2.1 j = v.2.1 j := by simp [sA, h]
theorem z_sAA (v : Vs) (k : Nat) (f h : Nat → Int32) : sA (sA v k f) k h = sA v k h := by
  simp only [sA]
  congr 2
  funext j
  split <;> rfl
theorem z_sIA (v : Vs) (k i : Nat) (x : Int32) : sI v k i x = sA v k (upd (v.2.1 k) i x) := rfl
theorem z_sAs (v : Vs) (k : Nat) : sA v k (v.2.1 k) = v := by
  simp only [sA]
  have : (fun j => if j = k then v.2.1 k else v.2.1 j) = v.2.1 := by
    funext j
    split
    · rename_i h; rw [h]
    · rfl
  rw [this]
theorem z_u1 (f : Nat → Int32) {i j : Nat} (x : Int32) (h : j = i) : upd f i x j = x := by simp [upd, h]
theorem z_u2 (f : Nat → Int32) {i j : Nat} (x : Int32) (h : j ≠ i) : upd f i x j = f j := by simp [upd, h]
theorem z_v1 (f : Nat → Int64) {i j : Nat} (x : Int64) (h : j = i) : vp_updL f i x j = x := by simp [vp_updL, h]
theorem z_v2 (f : Nat → Int64) {i j : Nat} (x : Int64) (h : j ≠ i) : vp_updL f i x j = f j := by simp [vp_updL, h]
-- bits
def bI (x : Int32) (k : Nat) : Bool := x.toBitVec.getLsbD k
def bJ (x : Int64) (k : Nat) : Bool := x.toBitVec.getLsbD k
theorem bJ_and (x y : Int64) (k : Nat) : bJ (x &&& y) k = (bJ x k && bJ y k) := by simp [bJ]
theorem bJ_or (x y : Int64) (k : Nat) : bJ (x ||| y) k = (bJ x k || bJ y k) := by simp [bJ]
theorem bJ_not (x : Int64) {k : Nat} (h : k < 64) : bJ (~~~x) k = !bJ x k := by simp [bJ, h]
theorem bI_and (x y : Int32) (k : Nat) : bI (x &&& y) k = (bI x k && bI y k) := by simp [bI]
theorem bI_or (x y : Int32) (k : Nat) : bI (x ||| y) k = (bI x k || bI y k) := by simp [bI]
theorem bI_not (x : Int32) {k : Nat} (h : k < 32) : bI (~~~x) k = !bI x k := by simp [bI, h]
theorem bI_0 (k : Nat) : bI (nI 0) k = false := by simp [bI, nI]
theorem bJ_0 (k : Nat) : bJ 0 k = false := by simp [bJ]
theorem bI_ext {x y : Int32} (h : ∀ k, k < 32 → bI x k = bI y k) : x = y := Int32.toBitVec_inj.mp (BitVec.eq_of_getLsbD_eq h)
theorem bJ_ext {x y : Int64} (h : ∀ k, k < 64 → bJ x k = bJ y k) : x = y := Int64.toBitVec_inj.mp (BitVec.eq_of_getLsbD_eq h)
theorem bI_ge {x : Int32} {k : Nat} (h : 32 ≤ k) : bI x k = false := BitVec.getLsbD_of_ge _ _ h
theorem bJ_ge {x : Int64} {k : Nat} (h : 64 ≤ k) : bJ x k = false := BitVec.getLsbD_of_ge _ _ h
theorem z_notJ (x : Int64) : x ^^^ (-1 : Int64) = ~~~x := by
  apply Int64.toBitVec_inj.mp
  show x.toBitVec ^^^ (-1 : Int64).toBitVec = ~~~x.toBitVec
  have e : (-1 : Int64).toBitVec = BitVec.allOnes 64 := by decide
  rw [e, BitVec.xor_allOnes]
theorem z_notI (x : Int32) : x ^^^ im1 = ~~~x := by
  apply Int32.toBitVec_inj.mp
  show x.toBitVec ^^^ im1.toBitVec = ~~~x.toBitVec
  have e : im1.toBitVec = BitVec.allOnes 32 := by decide
  rw [e, BitVec.xor_allOnes]
