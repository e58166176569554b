/-! which wires hang on which -/
def dep (q : Nat → Int32) (y w : Nat) : Bool := decide (w = y) || (bel q w).testBit y
def depO (q : Nat → Int32) (y w : Nat) : Nat → Bool
  | 0 => decide (w = y)
  | k + 1 => depO q y w k || dep q y (op q w k)
theorem tb_pow (a b : Nat) : (2 ^ a).testBit b = decide (a = b) := by
  rw [Nat.testBit_two_pow]
theorem dep_at {q : Nat → Int32} (hw : WFc q) (y : Nat) {w : Nat} (h : w < NW q) : depO q y w (hv q w) = dep q y w := by
  by_cases hi : w < NI q
  · have e := (hw.2.2.2.2.1 w hi).2
    have e0 : hv q w = 0 := by show nn (q (32 + w)) = 0; rw [e]; rfl
    rw [e0]
    unfold dep
    rw [bel_in hi, Nat.zero_testBit, Bool.or_false]
    rfl
  · have gen : ∀ n, depO q y w n = (decide (w = y) || (orf (fun k => bel q (op q w k) ||| 2 ^ op q w k) n).testBit y) := by
      intro n
      induction n with
      | zero =>
        show decide (w = y) = (decide (w = y) || (0 : Nat).testBit y)
        rw [Nat.zero_testBit, Bool.or_false]
      | succ n ih =>
        show (depO q y w n || dep q y (op q w n)) = (decide (w = y) || (orf (fun k => bel q (op q w k) ||| 2 ^ op q w k) n ||| (bel q (op q w n) ||| 2 ^ op q w n)).testBit y)
        rw [ih, Nat.testBit_or, Nat.testBit_or, tb_pow]
        unfold dep
        cases decide (w = y) <;> cases (orf (fun k => bel q (op q w k) ||| 2 ^ op q w k) n).testBit y <;> cases (bel q (op q w n)).testBit y <;> cases decide (op q w n = y) <;> rfl
    rw [gen]
    unfold dep
    rw [bel_at hw hi h]
def b01 (b : Bool) : Int32 := nI (if b = true then 1 else 0)
theorem b01_nar (b : Bool) : vp_nar .boolean (b01 b) = b01 b := by cases b <;> decide
theorem b01_0 (b : Bool) : (b01 b = 0) = (b = false) := by cases b <;> decide
theorem h_depends {B : Nat → Nat} {M a x y : Nat} {v0 v : Vs} {q : Nat → Int32} (h : MH B M v0 q a v) (hw : WFc q) (hx : x < NW q) (hy : y < NW q) : ∃ f, f_X8_dependsOn v (nI x) (nI y) = some (b01 (decide (x ≠ y) && dep q y x), sA v 19 f) := by
  have hn := hw.nf
  have a2 : ∀ k, k < 440 → v.2.1 2 k = q k := h.2.2.2.2.2.1
  have key : Ok (f_X8_dependsOn v (nI x) (nI y)) (fun r => ∃ f, r = (b01 (decide (x ≠ y) && dep q y x), sA v 19 f)) := by
    unfold f_X8_dependsOn
    refine zl2 (I := fun m z v' => ∃ w f, z = nI w ∧ v' = sA v 19 f ∧ w ≤ x + 1 ∧ m = x + 1 - w ∧ ∀ j, j < w → f j = b01 (dep q y j)) ?_ FU (x + 1) _ _ (by unfold FU; omega) ⟨0, v.2.1 19, rfl, (z_sAs v 19).symm, by omega, by omega, fun j hj => by omega⟩
    rintro m z v' self ⟨w, f, rfl, rfl, hle, rfl, hf⟩ ih
    unfold f_X8_dependsOn_L2
    by_cases hb : x < w
    · rw [ilt hb (by omega)]
      have e : w = x + 1 := by omega
      refine ok_jn ?_
      refine ok_jn ?_
      by_cases hxy : x = y
      · rw [iet hxy]
        refine ok_gd (by decide) (ok_some ⟨f, ?_⟩)
        simp [hxy, b01]
        rfl
      · rw [ief hxy (by omega) (by omega)]
        refine ok_gd (z_inb (by omega) (by omega)) ?_
        rw [z_cl (by omega), z_sA2, hf x (by omega)]
        cases hd : dep q y x
        · rw [if_pos (show b01 false = 0 by decide)]
          refine ok_gd (by decide) (ok_some ⟨f, ?_⟩)
          simp [b01]
          rfl
        · rw [if_neg (show ¬ b01 true = 0 by decide)]
          refine ok_gd (by decide) (ok_some ⟨f, ?_⟩)
          simp [b01, hxy]
          rfl
    · rw [ilf hb (by omega)]
      have hwN : w < NW q := by omega
      obtain ⟨hh1, hh2, hh3⟩ := hv_all hw hwN
      have go : ∀ t, t = b01 (decide (w = y)) → Ok (gd (inb (nI w) 24) (bn (sI (sA v 19 f) 19 (nI w).toNatClampNeg (vp_nar .boolean t)) (fun (vM_24 : Vs) => lp (f_X8_dependsOn_L26 (nI w) self) (fun _ _ => none) FU (0 : Int32) vM_24))) (fun r => ∃ f, r = (b01 (decide (x ≠ y) && dep q y x), sA v 19 f)) := by
        rintro t rfl
        refine ok_gd (z_inb (by omega) (by omega)) ?_
        refine ok_bn ?_
        rw [z_cl (by omega), b01_nar, z_sIA, z_sAA, z_sA2]
        refine zl2 (I := fun m z v' => ∃ k g, z = nI k ∧ v' = sA v 19 g ∧ k ≤ hv q w ∧ m = hv q w - k ∧ (∀ j, j < w → g j = b01 (dep q y j)) ∧ g w = b01 (depO q y w k)) ?_ FU (hv q w) _ _ (by unfold FU; omega) ⟨0, _, rfl, rfl, by omega, by omega, fun j hj => by rw [z_u2 _ _ (by omega)]; exact hf j hj, z_u1 _ _ rfl⟩
        rintro m z v' self2 ⟨k, g, rfl, rfl, hk, rfl, hg, hgw⟩ ih2
        unfold f_X8_dependsOn_L26
        rw [z_l32, nI_add]
        refine ok_gd (z_inb (by omega) (by omega)) ?_
        rw [z_cl (by omega), z_sA3 _ _ _ (by decide), a2 _ (by omega), hh1]
        by_cases hb2 : hv q w ≤ k
        · rw [ift hb2 (by omega), z_p1]
          have e : k = hv q w := by omega
          rw [e, dep_at hw y hwN] at hgw
          refine ih _ _ _ (by omega) ⟨w + 1, g, rfl, rfl, by omega, rfl, fun j hj => ?_⟩
          by_cases c : j = w
          · rw [c]; exact hgw
          · exact hg j (by omega)
        · rw [iff_ hb2 (by omega)]
          refine ok_gd (z_inb (by omega) (by omega)) ?_
          refine ok_jn ?_
          refine ok_jn ?_
          obtain ⟨-, g1, g2, g3, g4, g5, g6, g7, g8⟩ := hw.gate (w := w) (hh3 (by omega)) hwN
          obtain ⟨o1', o2'⟩ := g8 k (by omega)
          have fin : ∀ t, t = b01 (depO q y w (k + 1)) → Ok (gd (inb (nI w) 24) (bn (sI (sA v 19 g) 19 (nI w).toNatClampNeg (vp_nar .boolean t)) (fun (vM_37 : Vs) => self2 (nI k + (1 : Int32)) vM_37))) (fun r => ∃ f, r = (b01 (decide (x ≠ y) && dep q y x), sA v 19 f)) := by
            rintro t rfl
            refine ok_gd (z_inb (by omega) (by omega)) ?_
            refine ok_bn ?_
            rw [z_cl (by omega), b01_nar, z_sIA, z_sAA, z_sA2, z_p1]
            exact ih2 _ _ _ (by omega) ⟨k + 1, _, rfl, rfl, by omega, rfl, fun j hj => by rw [z_u2 _ _ (by omega)]; exact hg j hj, z_u1 _ _ rfl⟩
          have ed : depO q y w (k + 1) = (depO q y w k || dep q y (op q w k)) := rfl
          rw [z_cl (show w < 2147483648 by omega), z_sA2, hgw]
          cases hd : depO q y w k
          · rw [if_pos (show b01 false = 0 by decide), z_l56, z_l4, z_mul, nI_add, nI_add]
            refine ok_gd (z_inb (by omega) (by omega)) ?_
            rw [z_cl (by omega), a2 _ (by omega), o1']
            refine ok_gd (z_inb (by omega) (by omega)) ?_
            rw [z_cl (by omega), hg _ o2']
            cases hp : dep q y (op q w k)
            · rw [if_pos (show b01 false = 0 by decide)]
              have := fin (0 : Int32) (by rw [ed, hd, hp]; rfl)
              rw [z_cl (show w < 2147483648 by omega)] at this
              exact this
            · rw [if_neg (show ¬ b01 true = 0 by decide)]
              have := fin (1 : Int32) (by rw [ed, hd, hp]; rfl)
              rw [z_cl (show w < 2147483648 by omega)] at this
              exact this
          · rw [if_neg (show ¬ b01 true = 0 by decide)]
            have := fin (1 : Int32) (by rw [ed, hd]; rfl)
            rw [z_cl (show w < 2147483648 by omega)] at this
            exact this
      refine ok_jn ?_
      by_cases c : w = y
      · rw [iet c]
        exact go _ (by rw [decide_eq_true c]; rfl)
      · rw [ief c (by omega) (by omega)]
        exact go _ (by rw [decide_eq_false c]; rfl)
  obtain ⟨r, e, f, rfl⟩ := key
  exact ⟨f, e⟩
