/-! the class: its circuit, its lanes -/
def orf (f : Nat → Nat) : Nat → Nat
  | 0 => 0
  | n + 1 => orf f n ||| f n
def mxf (f : Nat → Nat) : Nat → Nat
  | 0 => 0
  | n + 1 => if f n ≤ mxf f n then mxf f n else f n
/-- the wires on which a wire depends, as a set -/
def belF (r : Nat → Int32) (w : Nat) (c : Nat → Nat) : Nat := if w < NI r then 0 else orf (fun k => c (op r w k) ||| 2 ^ op r w k) (hv r w)
def bel (r : Nat → Int32) : Nat → Nat := ev (belF r)
def levF (r : Nat → Int32) (w : Nat) (c : Nat → Nat) : Nat := if w < NI r then 0 else mxf (fun k => c (op r w k) + 1) (hv r w)
def lev (r : Nat → Int32) : Nat → Nat := ev (levF r)
/-- how many of the first n operands of gate g are w -/
def opc (r : Nat → Int32) (w g : Nat) : Nat → Nat
  | 0 => 0
  | n + 1 => opc r w g n + (if op r g n = w then 1 else 0)
/-- how often w is an operand of the gates from the first to below n -/
def useN (r : Nat → Int32) (w : Nat) : Nat → Nat
  | 0 => 0
  | n + 1 => useN r w n + (if n < NI r then 0 else opc r w n (hv r n))
def RC (r : Nat → Int32) (v : Vs) : Prop :=
  (v.1 0 = nI (NI r) ∧ v.1 1 = nI (NW r) ∧ v.1 2 = nI (NO r) ∧ v.1 3 = nI (NB r)) ∧
  (∀ w, w < NW r → v.2.1 4 w = r (8 + w) ∧ v.2.1 5 w = r (32 + w)) ∧
  (∀ w k, NI r ≤ w → w < NW r → k < hv r w → v.2.1 6 (w * 4 + k) = r (56 + 4 * w + k)) ∧
  (∀ w, w < NW r → v.2.1 7 w = nI (lev r w) ∧ v.2.1 8 w = nI (useN r w (NW r)) ∧ v.2.1 9 w = nI (bel r w)) ∧
  (∀ o, o < NO r → v.2.1 10 o = r (152 + o)) ∧
  (∀ b, b < NB r → v.2.1 13 b = r (158 + 3 * b) ∧ v.2.1 11 b = r (158 + 3 * b + 1) ∧ v.2.1 12 b = r (158 + 3 * b + 2))
/-- the wire's rows hold the values of f, lane by lane -/
def LW (v : Vs) (w : Nat) (f : Nat → Nat) : Prop := ∀ i, i < 64 → bJ (v.2.2 0 w) i = decide (f i = 0) ∧ bJ (v.2.2 1 w) i = decide (f i = 1)
theorem LW.cong {v : Vs} {w : Nat} {f g : Nat → Nat} (h : LW v w f) (e : ∀ i, i < 64 → f i = g i) : LW v w g := fun i hi => by
  rw [← e i hi]
  exact h i hi
theorem LW.same {v v' : Vs} {w : Nat} {f : Nat → Nat} (h : LW v w f) (e0 : v'.2.2 0 w = v.2.2 0 w) (e1 : v'.2.2 1 w = v.2.2 1 w) : LW v' w f := fun i hi => by
  rw [e0, e1]
  exact h i hi
def finC (k v : Nat) : Nat := if k = 2 then tn v else if k = 3 then tn v else if k = 5 then tn v else if k = 6 then tn v else v
theorem gval_C {r : Nat → Int32} {w : Nat} {c : Nat → Nat} (h1 : hv r w ≤ mst (kd r w)) (h8 : kd r w ≠ 8) (hk : kd r w ≤ 8) : gval r w c = finC (kd r w) (gfold (kd r w) (fun k => c (op r w k)) (hv r w - 1)) := by
  unfold gval finC fin2
  by_cases h6 : kd r w = 6
  · have e : hv r w - 1 = 0 := by
      have : mst (kd r w) = 1 := by rw [h6]; rfl
      omega
    rw [e, h6]
    rfl
  · by_cases h7 : kd r w = 7
    · have e : hv r w - 1 = 0 := by
        have : mst (kd r w) = 1 := by rw [h7]; rfl
        omega
      rw [e, h7]
      rfl
    · rw [if_neg h6, if_neg h7, if_neg h8]
      repeat' split
      all_goals first | rfl | omega
def NJ (z o : Int64) (f : Nat → Nat) : Prop := ∀ i, i < 64 → bJ z i = decide (f i = 0) ∧ bJ o i = decide (f i = 1)
theorem kb_0 : ∀ a, a < 3 → ∀ b, b < 3 → (decide (a = 0) || decide (b = 0)) = decide (dc a b 0 = 0) ∧ (decide (a = 1) && decide (b = 1)) = decide (dc a b 0 = 1) := by decide
theorem kb_1 : ∀ a, a < 3 → ∀ b, b < 3 → (decide (a = 0) && decide (b = 0)) = decide (dc a b 1 = 0) ∧ (decide (a = 1) || decide (b = 1)) = decide (dc a b 1 = 1) := by decide
theorem kb_x : ∀ a, a < 3 → ∀ b, b < 3 → ((decide (a = 0) && decide (b = 0)) || (decide (a = 1) && decide (b = 1))) = decide (xo a b = 0) ∧ ((decide (a = 0) && decide (b = 1)) || (decide (a = 1) && decide (b = 0))) = decide (xo a b = 1) := by decide
theorem kb_t : ∀ a, a < 3 → decide (a = 1) = decide (tn a = 0) ∧ decide (a = 0) = decide (tn a = 1) := by decide
theorem kb_m : ∀ a, a < 3 → ∀ b, b < 3 → ∀ c, c < 3 → (((decide (a = 0) && decide (b = 0)) || (decide (a = 1) && decide (c = 0))) || (decide (b = 0) && decide (c = 0))) = decide (mx a b c = 0) ∧ (((decide (a = 0) && decide (b = 1)) || (decide (a = 1) && decide (c = 1))) || (decide (b = 1) && decide (c = 1))) = decide (mx a b c = 1) := by decide
theorem NJ.cong {z o : Int64} {f g : Nat → Nat} (h : NJ z o f) (e : ∀ i, i < 64 → f i = g i) : NJ z o g := fun i hi => by
  rw [← e i hi]
  exact h i hi
theorem NJ.step {z o y x : Int64} {f g : Nat → Nat} (h : NJ z o f) (h2 : NJ y x g) (hf : ∀ i, f i ≤ 2) (hg : ∀ i, i < 64 → g i ≤ 2) :
    NJ (z ||| y) (o &&& x) (fun i => dc (f i) (g i) 0) ∧ NJ (z &&& y) (o ||| x) (fun i => dc (f i) (g i) 1) ∧ NJ ((z &&& y) ||| (o &&& x)) ((z &&& x) ||| (o &&& y)) (fun i => xo (f i) (g i)) := by
  refine ⟨fun i hi => ?_, fun i hi => ?_, fun i hi => ?_⟩
  all_goals
    obtain ⟨a1, a2⟩ := h i hi
    obtain ⟨b1, b2⟩ := h2 i hi
    have p1 := hf i
    have p2 := hg i hi
  · have k := kb_0 (f i) (by omega) (g i) (by omega)
    rw [← a1, ← a2, ← b1, ← b2, ← bJ_or, ← bJ_and] at k
    exact k
  · have k := kb_1 (f i) (by omega) (g i) (by omega)
    rw [← a1, ← a2, ← b1, ← b2, ← bJ_or, ← bJ_and] at k
    exact k
  · have k := kb_x (f i) (by omega) (g i) (by omega)
    rw [← a1, ← a2, ← b1, ← b2, ← bJ_and, ← bJ_and, ← bJ_and, ← bJ_and, ← bJ_or, ← bJ_or] at k
    exact k
theorem NJ.tn {z o : Int64} {f : Nat → Nat} (h : NJ z o f) (hf : ∀ i, f i ≤ 2) : NJ o z (fun i => tn (f i)) := by
  intro i hi
  obtain ⟨a1, a2⟩ := h i hi
  have p1 := hf i
  have k := kb_t (f i) (by omega)
  rw [← a1, ← a2] at k
  exact k
theorem NJ.mx {z1 o1 z2 o2 z3 o3 : Int64} {a b c : Nat → Nat} (h1 : NJ z1 o1 a) (h2 : NJ z2 o2 b) (h3 : NJ z3 o3 c) (ha : ∀ i, i < 64 → a i ≤ 2) (hb : ∀ i, i < 64 → b i ≤ 2) (hc : ∀ i, i < 64 → c i ≤ 2) : NJ (((z1 &&& z2) ||| (o1 &&& z3)) ||| (z2 &&& z3)) (((z1 &&& o2) ||| (o1 &&& o3)) ||| (o2 &&& o3)) (fun i => mx (a i) (b i) (c i)) := by
  intro i hi
  obtain ⟨a1, a2⟩ := h1 i hi
  obtain ⟨b1, b2⟩ := h2 i hi
  obtain ⟨c1, c2⟩ := h3 i hi
  have p1 := ha i hi
  have p2 := hb i hi
  have p3 := hc i hi
  have k := kb_m (a i) (by omega) (b i) (by omega) (c i) (by omega)
  rw [← a1, ← a2, ← b1, ← b2, ← c1, ← c2] at k
  simp only [← bJ_and, ← bJ_or] at k
  exact k
theorem x_runGate {r : Nat → Int32} (hw : WFc r) {vC vL : Vs} (hC : RC r vC) {w : Nat} (h1 : NI r ≤ w) (h2 : w < NW r) {c : Nat → Nat → Nat} (hc : ∀ k, k < hv r w → LW vL (op r w k) (fun i => c i (op r w k)) ∧ ∀ i, c i (op r w k) ≤ 2) : ∃ z o, f_X2_runGate vL vC (nI w) = some (sJ (sJ vL 0 w z) 1 w o) ∧ NJ z o (fun i => gval r w (c i)) := by
  have hn := hw.nf
  obtain ⟨h24, g1, g2, g3, g4, g5, g6, g7, g8⟩ := hw.gate h1 h2
  obtain ⟨-, ck, co, -, -, -⟩ := hC
  obtain ⟨k1, k2⟩ := ck w h2
  rw [g1] at k1
  rw [g3] at k2
  have ho : ∀ k, k < hv r w → vC.2.1 6 (w * 4 + k) = nI (op r w k) ∧ op r w k < 24 := fun k hk => by
    obtain ⟨a, b⟩ := g8 k hk
    exact ⟨(co w k h1 h2 hk).trans a, by omega⟩
  obtain ⟨o0, p0⟩ := ho 0 (by omega)
  rw [Nat.add_zero] at o0
  have hc0 := hc 0 (by omega)
  have key : Ok (f_X2_runGate vL vC (nI w)) (fun v' => ∃ z o, v' = sJ (sJ vL 0 w z) 1 w o ∧ NJ z o (fun i => gval r w (c i))) := by
    unfold f_X2_runGate
    by_cases h8 : kd r w = 8
    · have e3 : few (kd r w) = 3 := by rw [h8]; rfl
      obtain ⟨o1, p1⟩ := ho 1 (by omega)
      obtain ⟨o2, p2⟩ := ho 2 (by omega)
      have hop0 := (g8 0 (by omega)).2
      have hop1 := (g8 1 (by omega)).2
      have hop2 := (g8 2 (by omega)).2
      rw [h8] at k1
      simp (disch := omega) only [z_gt, z_o1, z_o2, z_o3, z_o4, z_o5, z_o6, z_o7, z_o8, z_o9, z_bn, z_jn, nI_add, z_mul, z_sub, z_div, Nat.not_lt_zero, z_cl, z_le, z_lt, z_eq, z_inb, z_nz, z_isB0, z_notJ, z_notI, z_isB1, z_m1, z_pos, z_pos', z_nlt, z_nle', z_m1le, z_m1a, z_nle, z_sI0, z_sI1, z_sI2, z_sI3, z_sJ0, z_sJ1, z_sJ2, z_sJ3, z_sF0, z_sF1, z_sF2, z_sA0, z_sA1, z_sA2, z_sA3, z_sAA, z_sIA, ↓reduceIte, Nat.reduceEqDiff, Nat.reduceLeDiff, Nat.reduceLT, z_l0, z_l1, z_l2, z_l3, z_l4, z_l5, z_l6, z_l7, z_l8, z_l9, z_l10, z_l11, z_l12, z_l13, z_l14, z_l15, z_l16, z_l17, z_l18, z_l19, z_l20, z_l21, z_l22, z_l23, z_l24, z_l25, z_l26, z_l27, z_l28, z_l32, z_l48, z_l56, z_l57, z_l59, z_l63, z_l64, z_l96, z_l97, z_l122, z_l127, z_l152, z_l158, z_l182, z_l255, z_l256, z_l310, z_l342, z_l406, z_l440, z_l729, z_l800, z_l3960, z_l14336, z_l14592, z_l100000, k1, o0, o1, o2, z_v2]
      refine ok_some ⟨_, _, rfl, ?_⟩
      have e : (fun i => gval r w (c i)) = fun i => mx (c i (op r w 0)) (c i (op r w 1)) (c i (op r w 2)) := by
        funext i
        unfold gval
        rw [if_neg (by omega), if_neg (by omega), if_pos h8]
      rw [e]
      have m := NJ.mx (hc 0 (by omega)).1 (hc 1 (by omega)).1 (hc 2 (by omega)).1 (fun i _ => (hc 0 (by omega)).2 i) (fun i _ => (hc 1 (by omega)).2 i) (fun i _ => (hc 2 (by omega)).2 i)
      exact m
    · simp (disch := omega) only [z_gt, z_o1, z_o2, z_o3, z_o4, z_o5, z_o6, z_o7, z_o8, z_o9, z_bn, z_jn, nI_add, z_mul, z_sub, z_div, Nat.not_lt_zero, z_cl, z_le, z_lt, z_eq, z_inb, z_nz, z_isB0, z_notJ, z_notI, z_isB1, z_m1, z_pos, z_pos', z_nlt, z_nle', z_m1le, z_m1a, z_nle, z_sI0, z_sI1, z_sI2, z_sI3, z_sJ0, z_sJ1, z_sJ2, z_sJ3, z_sF0, z_sF1, z_sF2, z_sA0, z_sA1, z_sA2, z_sA3, z_sAA, z_sIA, ↓reduceIte, Nat.reduceEqDiff, Nat.reduceLeDiff, Nat.reduceLT, z_l0, z_l1, z_l2, z_l3, z_l4, z_l5, z_l6, z_l7, z_l8, z_l9, z_l10, z_l11, z_l12, z_l13, z_l14, z_l15, z_l16, z_l17, z_l18, z_l19, z_l20, z_l21, z_l22, z_l23, z_l24, z_l25, z_l26, z_l27, z_l28, z_l32, z_l48, z_l56, z_l57, z_l59, z_l63, z_l64, z_l96, z_l97, z_l122, z_l127, z_l152, z_l158, z_l182, z_l255, z_l256, z_l310, z_l342, z_l406, z_l440, z_l729, z_l800, z_l3960, z_l14336, z_l14592, z_l100000, k1, o0, h8]
      have hB : ∀ j i, gfold (kd r w) (fun k => c i (op r w k)) j ≤ 2 := fun j i => gfold_2 _ (hc0.2 i) j
      refine zl3 (I := fun m x y z => ∃ j, z = nI (j + 1) ∧ j + 1 ≤ hv r w ∧ m = hv r w - (j + 1) ∧ NJ x y (fun i => gfold (kd r w) (fun k => c i (op r w k)) j)) ?_ FU (hv r w - 1) _ _ _ (by unfold FU; omega) ⟨0, rfl, by omega, by omega, hc0.1⟩
      rintro m x y z self ⟨j, rfl, hj, rfl, hN⟩ ih
      unfold f_X2_runGate_L187
      refine ok_gd (z_inb (by omega) (by omega)) ?_
      rw [z_cl (by omega), k2]
      by_cases hb : hv r w ≤ j + 1
      · rw [ift hb (by omega)]
        have e : hv r w - 1 = j := by omega
        have eg : (fun i => gval r w (c i)) = fun i => finC (kd r w) (gfold (kd r w) (fun k => c i (op r w k)) j) := by
          funext i
          rw [gval_C g5 h8 g2, e]
        rw [eg]
        have ht := hN.tn (hB j)
        have hk8 : kd r w = 0 ∨ kd r w = 1 ∨ kd r w = 2 ∨ kd r w = 3 ∨ kd r w = 4 ∨ kd r w = 5 ∨ kd r w = 6 ∨ kd r w = 7 := by omega
        rcases hk8 with q | q | q | q | q | q | q | q <;> rw [q] at hN ht k1 ⊢ <;> simp (disch := omega) only [z_gt, z_o1, z_o2, z_o3, z_o4, z_o5, z_o6, z_o7, z_o8, z_o9, z_bn, z_jn, nI_add, z_mul, z_sub, z_div, Nat.not_lt_zero, z_cl, z_le, z_lt, z_eq, z_inb, z_nz, z_isB0, z_notJ, z_notI, z_isB1, z_m1, z_pos, z_pos', z_nlt, z_nle', z_m1le, z_m1a, z_nle, z_sI0, z_sI1, z_sI2, z_sI3, z_sJ0, z_sJ1, z_sJ2, z_sJ3, z_sF0, z_sF1, z_sF2, z_sA0, z_sA1, z_sA2, z_sA3, z_sAA, z_sIA, ↓reduceIte, Nat.reduceEqDiff, Nat.reduceLeDiff, Nat.reduceLT, z_l0, z_l1, z_l2, z_l3, z_l4, z_l5, z_l6, z_l7, z_l8, z_l9, z_l10, z_l11, z_l12, z_l13, z_l14, z_l15, z_l16, z_l17, z_l18, z_l19, z_l20, z_l21, z_l22, z_l23, z_l24, z_l25, z_l26, z_l27, z_l28, z_l32, z_l48, z_l56, z_l57, z_l59, z_l63, z_l64, z_l96, z_l97, z_l122, z_l127, z_l152, z_l158, z_l182, z_l255, z_l256, z_l310, z_l342, z_l406, z_l440, z_l729, z_l800, z_l3960, z_l14336, z_l14592, z_l100000, k1] <;> first | exact ok_some ⟨_, _, rfl, hN⟩ | exact ok_some ⟨_, _, rfl, ht⟩
      · rw [iff_ hb (by omega)]
        obtain ⟨o1, p1⟩ := ho (j + 1) (by omega)
        have hc1 := hc (j + 1) (by omega)
        have hk6 : kd r w ≤ 5 := by
          have e7 : kd r w ≠ 7 := by
            intro q
            have : mst (kd r w) = 1 := by rw [q]; rfl
            omega
          have e6 : kd r w ≠ 6 := by
            intro q
            have : mst (kd r w) = 1 := by rw [q]; rfl
            omega
          omega
        obtain ⟨s0, s1, s2⟩ := hN.step hc1.1 (hB j) (fun i _ => hc1.2 i)
        have ih' := fun a b hN' => ih (hv r w - (j + 1 + 1)) a b (nI (j + 1 + 1)) (by omega) ⟨j + 1, rfl, by omega, rfl, hN'⟩
        have hk8 : kd r w = 0 ∨ kd r w = 1 ∨ kd r w = 2 ∨ kd r w = 3 ∨ kd r w = 4 ∨ kd r w = 5 := by omega
        rcases hk8 with q | q | q | q | q | q <;> rw [q] at s0 s1 s2 k1 ih' <;> simp (disch := omega) only [z_gt, z_o1, z_o2, z_o3, z_o4, z_o5, z_o6, z_o7, z_o8, z_o9, z_bn, z_jn, nI_add, z_mul, z_sub, z_div, Nat.not_lt_zero, z_cl, z_le, z_lt, z_eq, z_inb, z_nz, z_isB0, z_notJ, z_notI, z_isB1, z_m1, z_pos, z_pos', z_nlt, z_nle', z_m1le, z_m1a, z_nle, z_sI0, z_sI1, z_sI2, z_sI3, z_sJ0, z_sJ1, z_sJ2, z_sJ3, z_sF0, z_sF1, z_sF2, z_sA0, z_sA1, z_sA2, z_sA3, z_sAA, z_sIA, ↓reduceIte, Nat.reduceEqDiff, Nat.reduceLeDiff, Nat.reduceLT, z_l0, z_l1, z_l2, z_l3, z_l4, z_l5, z_l6, z_l7, z_l8, z_l9, z_l10, z_l11, z_l12, z_l13, z_l14, z_l15, z_l16, z_l17, z_l18, z_l19, z_l20, z_l21, z_l22, z_l23, z_l24, z_l25, z_l26, z_l27, z_l28, z_l32, z_l48, z_l56, z_l57, z_l59, z_l63, z_l64, z_l96, z_l97, z_l122, z_l127, z_l152, z_l158, z_l182, z_l255, z_l256, z_l310, z_l342, z_l406, z_l440, z_l729, z_l800, z_l3960, z_l14336, z_l14592, z_l100000, k1, o1] <;> first | exact ih' _ _ s0 | exact ih' _ _ s1 | exact ih' _ _ s2
  obtain ⟨v', e, z, o, rfl, hN⟩ := key
  exact ⟨z, o, e, hN⟩
theorem LW.set {v : Vs} {w : Nat} {z o : Int64} {f : Nat → Nat} (h : NJ z o f) : LW (sJ (sJ v 0 w z) 1 w o) w f := by
  intro i hi
  rw [z_sJ3 _ _ _ _ (by decide), z_sJ2, z_sJ2, z_v1 _ _ rfl, z_v1 _ _ rfl]
  exact h i hi
theorem LW.keep {v : Vs} {w j : Nat} {z o : Int64} {f : Nat → Nat} (h : LW v j f) (hj : j ≠ w) : LW (sJ (sJ v 0 w z) 1 w o) j f := by
  refine h.same ?_ ?_
  · rw [z_sJ3 _ _ _ _ (by decide), z_sJ2, z_v2 _ _ hj]
  · rw [z_sJ2, z_v2 _ _ hj, z_sJ3 _ _ _ _ (by decide)]
