/-! tokens -/
def runN (c : Nat → Bool) (B : Nat → Nat) (M : Nat) : Nat → Nat → Nat
  | 0, p => p
  | n + 1, p => if p < M ∧ c (B p) = true then runN c B M n (p + 1) else p
def rn (c : Nat → Bool) (B : Nat → Nat) (M p : Nat) : Nat := runN c B M (M - p) p
theorem rn_go {c : Nat → Bool} {B : Nat → Nat} {M p : Nat} (h1 : p < M) (h2 : c (B p) = true) : rn c B M p = rn c B M (p + 1) := by
  unfold rn
  obtain ⟨n, hn⟩ : ∃ n, M - p = n + 1 := ⟨M - p - 1, by omega⟩
  rw [hn, show M - (p + 1) = n by omega]
  show (if p < M ∧ c (B p) = true then runN c B M n (p + 1) else p) = _
  rw [if_pos ⟨h1, h2⟩]
theorem rn_no {c : Nat → Bool} {B : Nat → Nat} {M p : Nat} (h : ¬ (p < M ∧ c (B p) = true)) : rn c B M p = p := by
  unfold rn
  cases M - p with
  | zero => rfl
  | succ n =>
    show (if p < M ∧ c (B p) = true then runN c B M n (p + 1) else p) = _
    rw [if_neg h]
theorem rn_all {c : Nat → Bool} {B : Nat → Nat} {M : Nat} : ∀ n p, M - p ≤ n → p ≤ rn c B M p ∧ (p ≤ M → rn c B M p ≤ M) ∧ (∀ i, p ≤ i → i < rn c B M p → c (B i) = true) ∧ ¬ (rn c B M p < M ∧ c (B (rn c B M p)) = true)
  | 0, p, h => by
    have e : rn c B M p = p := rn_no (by omega)
    rw [e]
    exact ⟨Nat.le_refl _, fun h => h, fun i h1 h2 => by omega, by omega⟩
  | n + 1, p, h => by
    by_cases q : p < M ∧ c (B p) = true
    · obtain ⟨a, b, d, e⟩ := rn_all (c := c) (B := B) (M := M) n (p + 1) (by omega)
      rw [rn_go q.1 q.2]
      refine ⟨by omega, fun _ => b (by omega), fun i h1 h2 => ?_, e⟩
      by_cases hi : i = p
      · rw [hi]; exact q.2
      · exact d i (by omega) h2
    · rw [rn_no q]
      exact ⟨Nat.le_refl _, fun h => h, fun i h1 h2 => by omega, q⟩
theorem rn_ge (c : Nat → Bool) (B : Nat → Nat) (M p : Nat) : p ≤ rn c B M p := (rn_all (M - p) p (Nat.le_refl _)).1
theorem rn_le (c : Nat → Bool) (B : Nat → Nat) {M p : Nat} (h : p ≤ M) : rn c B M p ≤ M := (rn_all (M - p) p (Nat.le_refl _)).2.1 h
theorem rn_in {c : Nat → Bool} {B : Nat → Nat} {M p i : Nat} (h1 : p ≤ i) (h2 : i < rn c B M p) : c (B i) = true := (rn_all (M - p) p (Nat.le_refl _)).2.2.1 i h1 h2
theorem rn_end (c : Nat → Bool) (B : Nat → Nat) (M p : Nat) : ¬ (rn c B M p < M ∧ c (B (rn c B M p)) = true) := (rn_all (M - p) p (Nat.le_refl _)).2.2.2
theorem rn_rn (c : Nat → Bool) (B : Nat → Nat) (M p : Nat) : rn c B M (rn c B M p) = rn c B M p := rn_no (rn_end c B M p)
def isSp (b : Nat) : Bool := decide (b = 32)
def isDg (b : Nat) : Bool := decide (48 ≤ b ∧ b ≤ 57)
def isLt (b : Nat) : Bool := decide (97 ≤ b ∧ b ≤ 122)
theorem x_isDigit {b : Nat} (h : b < 256) : f_X5_isDigit (nI b) = some (nI (if isDg b then 1 else 0)) := by
  unfold f_X5_isDigit isDg
  by_cases h1 : b < 48
  · have : ¬ (48 ≤ b ∧ b ≤ 57) := by omega
    simp (disch := omega) only [z_gt, z_o1, z_o2, z_o3, z_o4, z_o5, z_o6, z_o7, z_o8, z_o9, z_bn, z_jn, nI_add, z_mul, z_sub, z_div, Nat.not_lt_zero, z_cl, z_le, z_lt, z_eq, z_inb, z_nz, z_isB0, z_notJ, z_notI, z_isB1, z_m1, z_pos, z_pos', z_nlt, z_nle', z_m1le, z_m1a, z_nle, z_sI0, z_sI1, z_sI2, z_sI3, z_sJ0, z_sJ1, z_sJ2, z_sJ3, z_sF0, z_sF1, z_sF2, z_sA0, z_sA1, z_sA2, z_sA3, z_sAA, z_sIA, ↓reduceIte, Nat.reduceEqDiff, Nat.reduceLeDiff, Nat.reduceLT, z_l0, z_l1, z_l2, z_l3, z_l4, z_l5, z_l6, z_l7, z_l8, z_l9, z_l10, z_l11, z_l12, z_l13, z_l14, z_l15, z_l16, z_l17, z_l18, z_l19, z_l20, z_l21, z_l22, z_l23, z_l24, z_l25, z_l26, z_l27, z_l28, z_l32, z_l48, z_l56, z_l57, z_l59, z_l63, z_l64, z_l96, z_l97, z_l122, z_l127, z_l152, z_l158, z_l182, z_l255, z_l256, z_l310, z_l342, z_l406, z_l440, z_l729, z_l800, z_l3960, z_l14336, z_l14592, z_l100000, h1, this, decide_false, Bool.false_eq_true]
  · by_cases h2 : 57 < b
    · have : ¬ (48 ≤ b ∧ b ≤ 57) := by omega
      simp (disch := omega) only [z_gt, z_o1, z_o2, z_o3, z_o4, z_o5, z_o6, z_o7, z_o8, z_o9, z_bn, z_jn, nI_add, z_mul, z_sub, z_div, Nat.not_lt_zero, z_cl, z_le, z_lt, z_eq, z_inb, z_nz, z_isB0, z_notJ, z_notI, z_isB1, z_m1, z_pos, z_pos', z_nlt, z_nle', z_m1le, z_m1a, z_nle, z_sI0, z_sI1, z_sI2, z_sI3, z_sJ0, z_sJ1, z_sJ2, z_sJ3, z_sF0, z_sF1, z_sF2, z_sA0, z_sA1, z_sA2, z_sA3, z_sAA, z_sIA, ↓reduceIte, Nat.reduceEqDiff, Nat.reduceLeDiff, Nat.reduceLT, z_l0, z_l1, z_l2, z_l3, z_l4, z_l5, z_l6, z_l7, z_l8, z_l9, z_l10, z_l11, z_l12, z_l13, z_l14, z_l15, z_l16, z_l17, z_l18, z_l19, z_l20, z_l21, z_l22, z_l23, z_l24, z_l25, z_l26, z_l27, z_l28, z_l32, z_l48, z_l56, z_l57, z_l59, z_l63, z_l64, z_l96, z_l97, z_l122, z_l127, z_l152, z_l158, z_l182, z_l255, z_l256, z_l310, z_l342, z_l406, z_l440, z_l729, z_l800, z_l3960, z_l14336, z_l14592, z_l100000, h1, h2, this, decide_false, Bool.false_eq_true]
    · have : (48 ≤ b ∧ b ≤ 57) := by omega
      simp (disch := omega) only [z_gt, z_o1, z_o2, z_o3, z_o4, z_o5, z_o6, z_o7, z_o8, z_o9, z_bn, z_jn, nI_add, z_mul, z_sub, z_div, Nat.not_lt_zero, z_cl, z_le, z_lt, z_eq, z_inb, z_nz, z_isB0, z_notJ, z_notI, z_isB1, z_m1, z_pos, z_pos', z_nlt, z_nle', z_m1le, z_m1a, z_nle, z_sI0, z_sI1, z_sI2, z_sI3, z_sJ0, z_sJ1, z_sJ2, z_sJ3, z_sF0, z_sF1, z_sF2, z_sA0, z_sA1, z_sA2, z_sA3, z_sAA, z_sIA, ↓reduceIte, Nat.reduceEqDiff, Nat.reduceLeDiff, Nat.reduceLT, z_l0, z_l1, z_l2, z_l3, z_l4, z_l5, z_l6, z_l7, z_l8, z_l9, z_l10, z_l11, z_l12, z_l13, z_l14, z_l15, z_l16, z_l17, z_l18, z_l19, z_l20, z_l21, z_l22, z_l23, z_l24, z_l25, z_l26, z_l27, z_l28, z_l32, z_l48, z_l56, z_l57, z_l59, z_l63, z_l64, z_l96, z_l97, z_l122, z_l127, z_l152, z_l158, z_l182, z_l255, z_l256, z_l310, z_l342, z_l406, z_l440, z_l729, z_l800, z_l3960, z_l14336, z_l14592, z_l100000, h1, h2, this, decide_true, and_self]
theorem x_isLetter {b : Nat} (h : b < 256) : f_X5_isLetter (nI b) = some (nI (if isLt b then 1 else 0)) := by
  unfold f_X5_isLetter isLt
  by_cases h1 : b < 97
  · have : ¬ (97 ≤ b ∧ b ≤ 122) := by omega
    simp (disch := omega) only [z_gt, z_o1, z_o2, z_o3, z_o4, z_o5, z_o6, z_o7, z_o8, z_o9, z_bn, z_jn, nI_add, z_mul, z_sub, z_div, Nat.not_lt_zero, z_cl, z_le, z_lt, z_eq, z_inb, z_nz, z_isB0, z_notJ, z_notI, z_isB1, z_m1, z_pos, z_pos', z_nlt, z_nle', z_m1le, z_m1a, z_nle, z_sI0, z_sI1, z_sI2, z_sI3, z_sJ0, z_sJ1, z_sJ2, z_sJ3, z_sF0, z_sF1, z_sF2, z_sA0, z_sA1, z_sA2, z_sA3, z_sAA, z_sIA, ↓reduceIte, Nat.reduceEqDiff, Nat.reduceLeDiff, Nat.reduceLT, z_l0, z_l1, z_l2, z_l3, z_l4, z_l5, z_l6, z_l7, z_l8, z_l9, z_l10, z_l11, z_l12, z_l13, z_l14, z_l15, z_l16, z_l17, z_l18, z_l19, z_l20, z_l21, z_l22, z_l23, z_l24, z_l25, z_l26, z_l27, z_l28, z_l32, z_l48, z_l56, z_l57, z_l59, z_l63, z_l64, z_l96, z_l97, z_l122, z_l127, z_l152, z_l158, z_l182, z_l255, z_l256, z_l310, z_l342, z_l406, z_l440, z_l729, z_l800, z_l3960, z_l14336, z_l14592, z_l100000, h1, this, decide_false, Bool.false_eq_true]
  · by_cases h2 : 122 < b
    · have : ¬ (97 ≤ b ∧ b ≤ 122) := by omega
      simp (disch := omega) only [z_gt, z_o1, z_o2, z_o3, z_o4, z_o5, z_o6, z_o7, z_o8, z_o9, z_bn, z_jn, nI_add, z_mul, z_sub, z_div, Nat.not_lt_zero, z_cl, z_le, z_lt, z_eq, z_inb, z_nz, z_isB0, z_notJ, z_notI, z_isB1, z_m1, z_pos, z_pos', z_nlt, z_nle', z_m1le, z_m1a, z_nle, z_sI0, z_sI1, z_sI2, z_sI3, z_sJ0, z_sJ1, z_sJ2, z_sJ3, z_sF0, z_sF1, z_sF2, z_sA0, z_sA1, z_sA2, z_sA3, z_sAA, z_sIA, ↓reduceIte, Nat.reduceEqDiff, Nat.reduceLeDiff, Nat.reduceLT, z_l0, z_l1, z_l2, z_l3, z_l4, z_l5, z_l6, z_l7, z_l8, z_l9, z_l10, z_l11, z_l12, z_l13, z_l14, z_l15, z_l16, z_l17, z_l18, z_l19, z_l20, z_l21, z_l22, z_l23, z_l24, z_l25, z_l26, z_l27, z_l28, z_l32, z_l48, z_l56, z_l57, z_l59, z_l63, z_l64, z_l96, z_l97, z_l122, z_l127, z_l152, z_l158, z_l182, z_l255, z_l256, z_l310, z_l342, z_l406, z_l440, z_l729, z_l800, z_l3960, z_l14336, z_l14592, z_l100000, h1, h2, this, decide_false, Bool.false_eq_true]
    · have : (97 ≤ b ∧ b ≤ 122) := by omega
      simp (disch := omega) only [z_gt, z_o1, z_o2, z_o3, z_o4, z_o5, z_o6, z_o7, z_o8, z_o9, z_bn, z_jn, nI_add, z_mul, z_sub, z_div, Nat.not_lt_zero, z_cl, z_le, z_lt, z_eq, z_inb, z_nz, z_isB0, z_notJ, z_notI, z_isB1, z_m1, z_pos, z_pos', z_nlt, z_nle', z_m1le, z_m1a, z_nle, z_sI0, z_sI1, z_sI2, z_sI3, z_sJ0, z_sJ1, z_sJ2, z_sJ3, z_sF0, z_sF1, z_sF2, z_sA0, z_sA1, z_sA2, z_sA3, z_sAA, z_sIA, ↓reduceIte, Nat.reduceEqDiff, Nat.reduceLeDiff, Nat.reduceLT, z_l0, z_l1, z_l2, z_l3, z_l4, z_l5, z_l6, z_l7, z_l8, z_l9, z_l10, z_l11, z_l12, z_l13, z_l14, z_l15, z_l16, z_l17, z_l18, z_l19, z_l20, z_l21, z_l22, z_l23, z_l24, z_l25, z_l26, z_l27, z_l28, z_l32, z_l48, z_l56, z_l57, z_l59, z_l63, z_l64, z_l96, z_l97, z_l122, z_l127, z_l152, z_l158, z_l182, z_l255, z_l256, z_l310, z_l342, z_l406, z_l440, z_l729, z_l800, z_l3960, z_l14336, z_l14592, z_l100000, h1, h2, this, decide_true, and_self]
/-- the number the class reads; the reference's -/
def nmC (B : Nat → Nat) (p : Nat) : Nat → Nat
  | 0 => 0
  | n + 1 => if nmC B p n * 10 + B (p + n) - 48 < 100000 then nmC B p n * 10 + B (p + n) - 48 else 100000
def nmR (B : Nat → Nat) (p : Nat) : Nat → Nat
  | 0 => 0
  | n + 1 => if nmR B p n ≤ 100000 then 10 * nmR B p n + B (p + n) - 48 else nmR B p n
theorem nmC_le (B : Nat → Nat) (p : Nat) : ∀ n, nmC B p n ≤ 100000
  | 0 => Nat.zero_le _
  | n + 1 => by
    show (if nmC B p n * 10 + B (p + n) - 48 < 100000 then nmC B p n * 10 + B (p + n) - 48 else 100000) ≤ _
    split <;> omega
theorem nm_CR {B : Nat → Nat} {p : Nat} : ∀ n, (∀ i, p ≤ i → i < p + n → isDg (B i) = true) → nmC B p n = (if nmR B p n < 100000 then nmR B p n else 100000) ∧ nmR B p n ≤ 1000009
  | 0, _ => ⟨rfl, Nat.zero_le _⟩
  | n + 1, h => by
    obtain ⟨a, b⟩ := nm_CR n (fun i h1 h2 => h i h1 (by omega))
    have hd := h (p + n) (by omega) (by omega)
    unfold isDg at hd
    rw [decide_eq_true_iff] at hd
    have e1 : nmC B p (n + 1) = if nmC B p n * 10 + B (p + n) - 48 < 100000 then nmC B p n * 10 + B (p + n) - 48 else 100000 := rfl
    have e2 : nmR B p (n + 1) = if nmR B p n ≤ 100000 then 10 * nmR B p n + B (p + n) - 48 else nmR B p n := rfl
    rw [e1, e2, a]
    by_cases c1 : nmR B p n < 100000
    · rw [if_pos c1, if_pos (show nmR B p n ≤ 100000 by omega), Nat.mul_comm (nmR B p n) 10]
      exact ⟨rfl, by omega⟩
    · rw [if_neg c1]
      by_cases c2 : nmR B p n ≤ 100000
      · rw [if_pos c2, if_neg (by omega), if_neg (by omega)]
        exact ⟨rfl, by omega⟩
      · rw [if_neg c2, if_neg (by omega), if_neg (by omega)]
        exact ⟨rfl, b⟩
def tkind (B : Nat → Nat) (M s : Nat) : Nat := if s < M then if isDg (B s) then 2 else if isLt (B s) then 1 else if B s = 59 then 3 else 4 else 0
def tend (B : Nat → Nat) (M s : Nat) : Nat := if s < M then if isDg (B s) then rn isDg B M s else if isLt (B s) then rn isLt B M s else s + 1 else s
/-- the text that is read -/
def DB (B : Nat → Nat) (M : Nat) (v : Vs) : Prop := v.1 5 = nI M ∧ M ≤ 800 ∧ ∀ i, i < M → v.2.1 3 i = nI (B i) ∧ B i < 256
/-- the token that begins at s -/
def TK (B : Nat → Nat) (M : Nat) (v : Vs) (s : Nat) : Prop := v.1 8 = nI s ∧ v.1 7 = nI (tkind B M s) ∧ v.1 6 = nI (tend B M s) ∧ (tkind B M s = 2 → v.1 9 = nI (nmC B s (tend B M s - s)))
def AD (v v' : Vs) : Prop := v'.2 = v.2 ∧ ∀ j, j ≠ 6 → j ≠ 7 → j ≠ 8 → j ≠ 9 → v'.1 j = v.1 j
theorem x_advance {B : Nat → Nat} {M p : Nat} {v : Vs} (hB : DB B M v) (hp : v.1 6 = nI p) (hpM : p ≤ M) : ∃ v', f_X5_advance v = some v' ∧ TK B M v' (rn isSp B M p) ∧ AD v v' := by
  obtain ⟨h5, h800, hb⟩ := hB
  have hsM := rn_le isSp B (p := p) hpM
  show Ok (f_X5_advance v) (fun v' => TK B M v' (rn isSp B M p) ∧ AD v v')
  unfold f_X5_advance
  refine zl1 (I := fun m v' => ∃ q, v'.1 6 = nI q ∧ v'.2 = v.2 ∧ (∀ j, j ≠ 6 → v'.1 j = v.1 j) ∧ q ≤ M ∧ rn isSp B M q = rn isSp B M p ∧ m = M - q) ?_ FU (M - p) _ (by unfold FU; omega) ⟨p, hp, rfl, fun _ _ => rfl, hpM, rfl, rfl⟩
  rintro m v' self ⟨q, e6, e2, ej, hq, hr, rfl⟩ ih
  have e5 : v'.1 5 = nI M := by rw [ej 5 (by decide)]; exact h5
  have eb : ∀ i, i < M → v'.2.1 3 i = nI (B i) := fun i hi => by rw [e2]; exact (hb i hi).1
  unfold f_X5_advance_L0
  refine ok_jn ?_
  rw [e5, e6]
  have fin : rn isSp B M p = q → Ok (bn (sF v' 8 (nI q)) (fun (vD_7 : Vs) => bn (sF vD_7 9 (0 : Int32)) (fun (vD_8 : Vs) => jn (fun (vD_9 : Vs) => some (vD_9)) (fun k10 => if (vD_8.1 6) < (vD_8.1 5) then gd (inb (vD_8.1 6) 800) (o1 (f_X5_isDigit (vD_8.2.1 3 ((vD_8.1 6)).toNatClampNeg)) (fun (r16 : Int32) => if r16 = 0 then gd (inb (vD_8.1 6) 800) (o1 (f_X5_isLetter (vD_8.2.1 3 ((vD_8.1 6)).toNatClampNeg)) (fun (r20 : Int32) => if r20 = 0 then gd (inb (vD_8.1 6) 800) (jn (fun (t24 : Int32) => bn (sF vD_8 7 t24) (fun (vD_27 : Vs) => bn (sF vD_27 6 ((vD_27.1 6) + (1 : Int32))) (fun (vD_28 : Vs) => k10 vD_28))) (fun k25 => if (vD_8.2.1 3 ((vD_8.1 6)).toNatClampNeg) = (59 : Int32) then k25 (3 : Int32) else k25 (4 : Int32))) else bn (sF vD_8 7 (1 : Int32)) (fun (vD_31 : Vs) => lp (f_X5_advance_L178 k10) (fun _ => none) FU vD_31))) else bn (sF vD_8 7 (2 : Int32)) (fun (vD_42 : Vs) => lp (f_X5_advance_L90 k10) (fun _ => none) FU vD_42))) else bn (sF vD_8 7 (0 : Int32)) (fun (vD_55 : Vs) => k10 vD_55))))) (fun v' => TK B M v' (rn isSp B M p) ∧ AD v v') := by
    intro hs
    rw [hs]
    obtain ⟨w, hw⟩ : ∃ w, w = sF (sF v' 8 (nI q)) 9 (0 : Int32) := ⟨_, rfl⟩
    have w6 : w.1 6 = nI q := by rw [hw, z_sF2 _ _ _ (by decide), z_sF2 _ _ _ (by decide)]; exact e6
    have w5 : w.1 5 = nI M := by rw [hw, z_sF2 _ _ _ (by decide), z_sF2 _ _ _ (by decide)]; exact e5
    have w8 : w.1 8 = nI q := by rw [hw, z_sF2 _ _ _ (by decide), z_sF1]
    have w9 : w.1 9 = nI 0 := by rw [hw, z_sF1]; rfl
    have w2 : w.2 = v.2 := by rw [hw]; exact e2
    have wj : ∀ j, j ≠ 6 → j ≠ 7 → j ≠ 8 → j ≠ 9 → w.1 j = v.1 j := fun j a b c d => by rw [hw, z_sF2 _ _ _ d, z_sF2 _ _ _ c]; exact ej j a
    have wb : ∀ i, i < M → w.2.1 3 i = nI (B i) := fun i hi => by rw [w2]; exact (hb i hi).1
    refine ok_bn ?_
    refine ok_bn ?_
    refine ok_jn ?_
    rw [← hw, w6, w5]
    by_cases hqM : q < M
    · rw [ilt hqM (by omega)]
      have hin : inb (nI q) 800 = true := z_inb (by omega) (by omega)
      refine ok_gd hin ?_
      rw [z_cl (by omega), wb q hqM]
      have b256 := (hb q hqM).2
      refine ok_o1e (x_isDigit b256) ?_
      by_cases hd : isDg (B q) = true
      · rw [if_pos hd, if_neg (by decide)]
        refine ok_bn ?_
        have tk : tkind B M q = 2 := by unfold tkind; rw [if_pos hqM, if_pos hd]
        have te : tend B M q = rn isDg B M q := by unfold tend; rw [if_pos hqM, if_pos hd]
        refine zl1 (I := fun m v' => ∃ t, q ≤ t ∧ t ≤ M ∧ m = M - t ∧ rn isDg B M t = rn isDg B M q ∧ v'.1 6 = nI t ∧ v'.1 9 = nI (nmC B q (t - q)) ∧ v'.1 7 = nI 2 ∧ v'.1 8 = nI q ∧ v'.1 5 = nI M ∧ v'.2 = v.2 ∧ ∀ j, j ≠ 6 → j ≠ 7 → j ≠ 8 → j ≠ 9 → v'.1 j = v.1 j) ?_ FU (M - q) _ (by unfold FU; omega) ⟨q, by omega, by omega, rfl, rfl, ?_, ?_, z_sF1 _ _ _, ?_, ?_, w2, fun j a b c d => ?_⟩
        · rintro m u self2 ⟨t, hqt, htM, rfl, hrt, u6, u9, u7, u8, u5, u2, uj⟩ ih2
          have ub : ∀ i, i < M → u.2.1 3 i = nI (B i) := fun i hi => by rw [u2]; exact (hb i hi).1
          unfold f_X5_advance_L90
          rw [u5, u6]
          have done : rn isDg B M t = t → Ok (some u) (fun v' => TK B M v' q ∧ AD v v') := fun h => by
            have e : tend B M q = t := by rw [te, ← hrt, h]
            exact ok_some ⟨⟨u8, by rw [tk]; exact u7, by rw [e]; exact u6, fun _ => by rw [e]; exact u9⟩, u2, uj⟩
          by_cases c : M ≤ t
          · rw [ift c (by omega)]
            exact done (rn_no (by omega))
          · rw [iff_ c (by omega)]
            have hin2 : inb (nI t) 800 = true := z_inb (by omega) (by omega)
            refine ok_gd hin2 ?_
            rw [z_cl (by omega), ub t (by omega)]
            have t256 := (hb t (by omega)).2
            refine ok_o1e (x_isDigit t256) ?_
            by_cases hdt : isDg (B t) = true
            · rw [if_pos hdt, if_neg (by decide)]
              refine ok_gd hin2 ?_
              refine ok_bn ?_
              refine ok_bn ?_
              have hdt' := hdt
              unfold isDg at hdt'
              rw [decide_eq_true_iff] at hdt'
              have hle := nmC_le B q (t - q)
              have en : nmC B q (t + 1 - q) = if nmC B q (t - q) * 10 + B t - 48 < 100000 then nmC B q (t - q) * 10 + B t - 48 else 100000 := by
                rw [show t + 1 - q = (t - q) + 1 by omega]
                show (if nmC B q (t - q) * 10 + B (q + (t - q)) - 48 < 100000 then nmC B q (t - q) * 10 + B (q + (t - q)) - 48 else 100000) = _
                rw [show q + (t - q) = t by omega]
              have e9 : (if (nI (nmC B q (t - q)) * (10 : Int32)) + nI (B t) - (48 : Int32) < (100000 : Int32) then (nI (nmC B q (t - q)) * (10 : Int32)) + nI (B t) - (48 : Int32) else (100000 : Int32)) = nI (nmC B q (t + 1 - q)) := by
                rw [en, z_l10, z_mul, nI_add, z_l48, z_sub (by omega), z_l100000]
                by_cases cc : nmC B q (t - q) * 10 + B t - 48 < 100000
                · rw [ilt cc (by omega), if_pos cc]
                · rw [ilf cc (by omega), if_neg cc]
              rw [u9, e9]
              refine ih2 _ _ (show M - (t + 1) < M - t by omega) ⟨t + 1, by omega, by omega, rfl, by rw [← hrt, rn_go (show t < M by omega) hdt], ?_, ?_, ?_, ?_, ?_, u2, fun j a b c d => ?_⟩
              · rw [z_sF1, z_sF2 _ _ _ (by decide), u6, z_p1]
              · rw [z_sF2 _ _ _ (by decide), z_sF1]
              · rw [z_sF2 _ _ _ (by decide), z_sF2 _ _ _ (by decide)]; exact u7
              · rw [z_sF2 _ _ _ (by decide), z_sF2 _ _ _ (by decide)]; exact u8
              · rw [z_sF2 _ _ _ (by decide), z_sF2 _ _ _ (by decide)]; exact u5
              · rw [z_sF2 _ _ _ a, z_sF2 _ _ _ d]; exact uj j a b c d
            · rw [if_neg hdt, if_pos (show nI 0 = (0 : Int32) from rfl)]
              exact done (rn_no (fun q => hdt q.2))
        · rw [z_sF2 _ _ _ (by decide)]; exact w6
        · rw [z_sF2 _ _ _ (by decide), Nat.sub_self]; exact w9
        · rw [z_sF2 _ _ _ (by decide)]; exact w8
        · rw [z_sF2 _ _ _ (by decide)]; exact w5
        · rw [z_sF2 _ _ _ b]; exact wj j a b c d
      · rw [if_neg hd, if_pos (show nI 0 = (0 : Int32) from rfl)]
        refine ok_gd hin ?_
        refine ok_o1e (x_isLetter b256) ?_
        by_cases hl : isLt (B q) = true
        · rw [if_pos hl, if_neg (by decide)]
          refine ok_bn ?_
          have tk : tkind B M q = 1 := by unfold tkind; rw [if_pos hqM, if_neg hd, if_pos hl]
          have te : tend B M q = rn isLt B M q := by unfold tend; rw [if_pos hqM, if_neg hd, if_pos hl]
          refine zl1 (I := fun m v' => ∃ t, q ≤ t ∧ t ≤ M ∧ m = M - t ∧ rn isLt B M t = rn isLt B M q ∧ v'.1 6 = nI t ∧ v'.1 7 = nI 1 ∧ v'.1 8 = nI q ∧ v'.1 5 = nI M ∧ v'.2 = v.2 ∧ ∀ j, j ≠ 6 → j ≠ 7 → j ≠ 8 → j ≠ 9 → v'.1 j = v.1 j) ?_ FU (M - q) _ (by unfold FU; omega) ⟨q, by omega, by omega, rfl, rfl, ?_, z_sF1 _ _ _, ?_, ?_, w2, fun j a b c d => ?_⟩
          · rintro m u self2 ⟨t, hqt, htM, rfl, hrt, u6, u7, u8, u5, u2, uj⟩ ih2
            have ub : ∀ i, i < M → u.2.1 3 i = nI (B i) := fun i hi => by rw [u2]; exact (hb i hi).1
            unfold f_X5_advance_L178
            rw [u5, u6]
            have done : rn isLt B M t = t → Ok (some u) (fun v' => TK B M v' q ∧ AD v v') := fun h => by
              have e : tend B M q = t := by rw [te, ← hrt, h]
              exact ok_some ⟨⟨u8, by rw [tk]; exact u7, by rw [e]; exact u6, fun h2 => by rw [tk] at h2; omega⟩, u2, uj⟩
            by_cases c : M ≤ t
            · rw [ift c (by omega)]
              exact done (rn_no (by omega))
            · rw [iff_ c (by omega)]
              refine ok_gd (z_inb (by omega) (by omega)) ?_
              rw [z_cl (by omega), ub t (by omega)]
              have t256 := (hb t (by omega)).2
              refine ok_o1e (x_isLetter t256) ?_
              by_cases hdt : isLt (B t) = true
              · rw [if_pos hdt, if_neg (by decide)]
                refine ok_bn ?_
                refine ih2 _ _ (show M - (t + 1) < M - t by omega) ⟨t + 1, by omega, by omega, rfl, by rw [← hrt, rn_go (show t < M by omega) hdt], ?_, ?_, ?_, ?_, u2, fun j a b c d => ?_⟩
                · rw [z_sF1, z_p1]
                · rw [z_sF2 _ _ _ (by decide)]; exact u7
                · rw [z_sF2 _ _ _ (by decide)]; exact u8
                · rw [z_sF2 _ _ _ (by decide)]; exact u5
                · rw [z_sF2 _ _ _ a]; exact uj j a b c d
              · rw [if_neg hdt, if_pos (show nI 0 = (0 : Int32) from rfl)]
                exact done (rn_no (fun q => hdt q.2))
          · rw [z_sF2 _ _ _ (by decide)]; exact w6
          · rw [z_sF2 _ _ _ (by decide)]; exact w8
          · rw [z_sF2 _ _ _ (by decide)]; exact w5
          · rw [z_sF2 _ _ _ b]; exact wj j a b c d
        · rw [if_neg hl, if_pos (show nI 0 = (0 : Int32) from rfl)]
          refine ok_gd hin ?_
          have te : tend B M q = q + 1 := by unfold tend; rw [if_pos hqM, if_neg hd, if_neg hl]
          have one : ∀ t, t = nI (tkind B M q) → tkind B M q ≠ 2 → Ok (some (sF (sF w 7 t) 6 ((sF w 7 t).1 6 + (1 : Int32)))) (fun v' => TK B M v' q ∧ AD v v') := by
            rintro t rfl h2
            refine ok_some ⟨⟨?_, ?_, ?_, fun h => absurd h h2⟩, w2, fun j a b c d => ?_⟩
            · rw [z_sF2 _ _ _ (by decide), z_sF2 _ _ _ (by decide)]; exact w8
            · rw [z_sF2 _ _ _ (by decide), z_sF1]
            · rw [z_sF1, z_sF2 _ _ _ (by decide), w6, z_p1, te]
            · rw [z_sF2 _ _ _ a, z_sF2 _ _ _ b]; exact wj j a b c d
          refine ok_jn ?_
          rw [z_l59]
          by_cases h59 : B q = 59
          · have tk : tkind B M q = 3 := by unfold tkind; rw [if_pos hqM, if_neg hd, if_neg hl, if_pos h59]
            rw [iet h59]
            exact one _ (by rw [tk]; rfl) (by omega)
          · have tk : tkind B M q = 4 := by unfold tkind; rw [if_pos hqM, if_neg hd, if_neg hl, if_neg h59]
            rw [ief h59 (by omega) (by omega)]
            exact one _ (by rw [tk]; rfl) (by omega)
    · rw [ilf hqM (by omega)]
      refine ok_bn ?_
      have tk : tkind B M q = 0 := by unfold tkind; rw [if_neg hqM]
      have te : tend B M q = q := by unfold tend; rw [if_neg hqM]
      refine ok_some ⟨⟨?_, ?_, ?_, fun h => by omega⟩, w2, fun j a b c d => ?_⟩
      · rw [z_sF2 _ _ _ (by decide)]; exact w8
      · rw [z_sF1, tk]; rfl
      · rw [z_sF2 _ _ _ (by decide), te]; exact w6
      · rw [z_sF2 _ _ _ b]; exact wj j a b c d
  by_cases c : M ≤ q
  · rw [ift c (by omega)]
    exact fin (by rw [← hr]; exact rn_no (by omega))
  · rw [iff_ c (by omega)]
    refine ok_gd (z_inb (by omega) (by omega)) ?_
    rw [z_cl (by omega), eb q (by omega), z_l32]
    have b256 := (hb q (by omega)).2
    by_cases h32 : B q = 32
    · rw [iet h32]
      refine ok_bn ?_
      refine ih _ _ (show M - (q + 1) < M - q by omega) ⟨q + 1, ?_, e2, fun j hj => ?_, by omega, by rw [← hr, rn_go (show q < M by omega) (by unfold isSp; rw [h32]; rfl)], rfl⟩
      · rw [z_sF1, z_p1]
      · rw [z_sF2 _ _ _ hj]; exact ej j hj
    · rw [ief h32 (by omega) (by omega)]
      exact fin (by rw [← hr]; exact rn_no (fun z => h32 (by have := z.2; unfold isSp at this; exact decide_eq_true_iff.mp this)))
