/-! the reference: what changes; finders; all full tests -/
def SC (l : List Nat) (v v' : Vs) : Prop := v'.1 = v.1 ∧ ∀ k, k ∉ l → v'.2.1 k = v.2.1 k
theorem SC.rf (l : List Nat) (v : Vs) : SC l v v := ⟨rfl, fun _ _ => rfl⟩
theorem SC.tr {l : List Nat} {a b c : Vs} (h : SC l a b) (h2 : SC l b c) : SC l a c := ⟨h2.1.trans h.1, fun k hk => (h2.2 k hk).trans (h.2 k hk)⟩
theorem SC.mono {l l' : List Nat} {a b : Vs} (h : SC l a b) (hs : ∀ k, k ∈ l → k ∈ l') : SC l' a b := ⟨h.1, fun k hk => h.2 k (fun q => hk (hs k q))⟩
theorem SC.sA {l : List Nat} {a b : Vs} (h : SC l a b) {k : Nat} (f : Nat → Int32) (hk : k ∈ l) : SC l a (sA b k f) := ⟨h.1, fun j hj => by
  have : j ≠ k := fun e => hj (e ▸ hk)
  rw [z_sA3 b k f this]
  exact h.2 j hj⟩
theorem MS.sc {l : List Nat} {v v' : Vs} {n : Nat} {r : Nat → Int32} (h : MS v n r) (hs : SC l v v') (h1 : 1 ∉ l) : MS v' n r := by
  refine ⟨by rw [hs.1]; exact h.1, h.2.1, fun k hk => ?_⟩
  rw [hs.2 1 h1]
  exact h.2.2 k hk
/-- asked, clean are those of the question ask -/
def AS (v : Vs) (r : Nat → Int32) (ask : Nat → Nat) : Prop := (∀ i, i < NI r → v.2.1 6 i = nI (ask i) ∧ ask i ≤ 2) ∧ ∀ w, w < NW r → v.2.1 7 w = nI (good r ask w)
theorem AS.sc {l : List Nat} {v v' : Vs} {r : Nat → Int32} {ask : Nat → Nat} (h : AS v r ask) (hs : SC l v v') (h6 : 6 ∉ l) (h7 : 7 ∉ l) : AS v' r ask := by
  refine ⟨fun i hi => ?_, fun w hw => ?_⟩
  · rw [hs.2 6 h6]; exact h.1 i hi
  · rw [hs.2 7 h7]; exact h.2 w hw
def FNo (r : Nat → Int32) (ask : Nat → Nat) (f : Nat) : Nat := foundN (good r ask) (bad r ask (f + 1)) r (NO r)
/-- test t finds fault f -/
def FD (r : Nat → Int32) (t f : Nat) : Bool := decide (FNo r (tv r t) f = 2)
theorem FNo_2 (r : Nat → Int32) (ask : Nat → Nat) (f : Nat) : FNo r ask f ≤ 2 := foundN_2 _ _ _ _
/-- the tests below n that find fault f, as a set -/
def fbN (r : Nat → Int32) (f : Nat) : Nat → Nat
  | 0 => 0
  | n + 1 => fbN r f n + (if FD r n f then 2 ^ n else 0)
theorem fbN_lt (r : Nat → Int32) (f : Nat) : ∀ n, fbN r f n < 2 ^ n
  | 0 => by simp [fbN]
  | n + 1 => by
    have h := fbN_lt r f n
    show fbN r f n + _ < _
    rw [Nat.pow_succ]
    split <;> omega
theorem g_shl : ∀ t, t < 31 → ((nI 1 : Int32) <<< (nI t &&& 31)) = nI (2 ^ t) := by decide +kernel
theorem g_or2 {a t : Nat} (h : a < 2 ^ t) : nI a ||| nI (2 ^ t) = nI (a + 2 ^ t) := by
  have e : nI a ||| nI (2 ^ t) = nI (a ||| 2 ^ t) := by
    apply Int32.toBitVec_inj.1
    show BitVec.ofNat 32 a ||| BitVec.ofNat 32 (2 ^ t) = BitVec.ofNat 32 (a ||| 2 ^ t)
    apply BitVec.eq_of_getLsbD_eq
    intro i hi
    simp [hi]
  rw [e, Nat.or_comm]
  have := Nat.two_pow_add_eq_or_of_lt h 1
  rw [Nat.mul_one] at this
  rw [← this, Nat.add_comm]
theorem g_or0 (a : Nat) : nI a ||| nI 0 = nI a := by
  apply bI_ext
  intro k _
  rw [bI_or, bI_0, Bool.or_false]
