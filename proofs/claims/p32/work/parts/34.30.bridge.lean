/-! the bridge's statement, the circuit's line -/
def brT (k : Nat) : List Nat := wdS 5 ++ wdS (nmS k) ++ wdS 0
theorem br_at {B : Nat → Nat} {s k : Nat} (hk : k < 9) (hP : PC B s (brT k)) : PC B s (wdS 4) ∧ B (s + 6) = 32 ∧ PC B (s + 7) (wdS (kwN k)) ∧ B (s + 7 + wl (kwN k)) = 32 ∧ B (s + 7 + wl (kwN k) + 1) = 48 ∧ B (s + 7 + wl (kwN k) + 2) = 32 ∧ B (s + 7 + wl (kwN k) + 3) = 49 ∧ B (s + 7 + wl (kwN k) + 4) = 59 := by
  obtain ⟨kn1, kn2, -⟩ := kwN_nmS k hk
  have l5 : (wdS 5).length = 7 := by decide +kernel
  have e5 : wdS 5 = wdS 4 ++ [32] := by decide +kernel
  have l4 : (wdS 4).length = 6 := by decide +kernel
  have e0 : wdS 0 = [32, 48, 32, 49, 59] := by decide +kernel
  unfold brT at hP
  have a1 := hP.app
  have a2 := a1.1.app
  have t := a1.2
  rw [List.length_append, l5, kn1, wl_len kn2, e0] at t
  have c := a2.1
  rw [e5] at c
  have c := c.app
  have c2 := c.2.one
  rw [l4] at c2
  have d := a2.2
  rw [l5, kn1] at d
  have f : ∀ j, j < 5 → B (s + (7 + wl (kwN k)) + j) = [32, 48, 32, 49, 59].getD j 0 := fun j hj => t j hj
  have f0 := f 0 (by omega)
  have f1 := f 1 (by omega)
  have f2 := f 2 (by omega)
  have f3 := f 3 (by omega)
  have f4 := f 4 (by omega)
  rw [← Nat.add_assoc] at f0 f1 f2 f3 f4
  exact ⟨c.1, c2, d, f0, f1, f2, f3, f4⟩
theorem dep_in {q : Nat → Int32} {x y : Nat} (hx : x < NI q) (hne : x ≠ y) : dep q y x = false := by
  unfold dep
  rw [bel_in hx]
  simp [hne]
theorem p_bridge {q : Nat → Int32} {vC vT : Vs} (hG : GR q vC vT) (h0 : NB q = 0) (hI : 2 ≤ NI q) {B : Nat → Nat} {M s : Nat} {v : Vs} (h : CH B M s v) {k : Nat} (hk : k < 2) (hP : PC B s (brT k)) (hM : s + (7 + wl (kwN k) + 5) ≤ M) (hne : rn isSp B M (s + 7 + wl (kwN k) + 5) = s + 7 + wl (kwN k) + 5) :
    ∃ v' vC', f_X5_readStatement v vC vT = some (nI 1, v', vC', vT) ∧ CH B M (s + 7 + wl (kwN k) + 5) v' ∧ GR (brQ q k 0 1) vC' vT := by
  obtain ⟨b1, b2, b3, b4, b5, b6, b7, b8⟩ := br_at (by omega) hP
  obtain ⟨kn1, kn2, -⟩ := kwN_nmS k (by omega)
  obtain ⟨wk1, wk2, wk3, wk4⟩ := words (kwN k) kn2
  obtain ⟨hw, ht, hC, hT⟩ := id hG
  have hnf := hw.nf
  have hIW : NI q ≤ NW q := hw.2.1.2.1
  have hl4 : wl 4 = 6 := rfl
  obtain ⟨iw, vA, eA, hA⟩ := h.word (i := 4) (by decide) (by rw [hl4]; omega) b1 (by rw [hl4, b2]; exact lt_sp.1)
  have hb7 : B (s + 6 + 1) ≠ 32 := by
    have := b3 0 (by rw [wl_len kn2]; omega)
    rw [wdS_wc, Nat.add_zero] at this
    have := (wk4 0 (by omega)).2.1
    rw [show s + 6 + 1 = s + 7 by omega]
    omega
  rw [hl4, sp_1 (by omega) b2 hb7, show s + 6 + 1 = s + 7 by omega] at hA
  obtain ⟨iw2, vB, eB, hB⟩ := hA.word (i := kwN k) kn2 (by omega) b3 (by rw [b4]; exact lt_sp.1)
  have hKI := kw_is (by omega) iw2
  rw [sp_1 (by omega) b4 (by rw [b5]; decide)] at hB
  obtain ⟨t7, t9, vD, eD, hD⟩ := hB.dig (d := 0) (by omega) (by omega) b5 (by rw [b6]; exact lt_sp.2.2.1)
  rw [sp_1 (by omega) b6 (by rw [b7]; decide)] at hD
  obtain ⟨u7, u9, vE, eE, hE⟩ := hD.dig (d := 1) (by omega) (by omega) b7 (by rw [b8]; exact lt_sp.2.2.2)
  rw [sp_0 (by show B (s + 7 + wl (kwN k) + 4) ≠ 32; rw [b8]; decide)] at hE
  obtain ⟨x7, vF, eF, hF⟩ := hE.end3 (by omega) b8
  have hF : CH B M (rn isSp B M (s + 7 + wl (kwN k) + 5)) vF := hF
  rw [hne] at hF
  have hkw : ∀ u d, u.1 7 = nI 2 → u.1 9 = nI d → d < NW q → f_X5_isKnownWire u vC vT = some (nI 1, u) := fun u d a1 a2 a3 => by
    unfold f_X5_isKnownWire
    rw [a1, if_pos (show nI 2 = (2 : Int32) from rfl), a2, hC.1.2.1, ilt a3 (by omega)]
    rfl
  have hlp := x_loop hw hC (x := 0) (y := 1) (by omega) (by omega)
  rw [if_neg (by rw [dep_in (x := 0) (y := 1) (by omega) (by omega), dep_in (x := 1) (y := 0) (by omega) (by omega)]; decide)] at hlp
  obtain ⟨vC', eC', g', -, -⟩ := put_bridge hG (by omega) (t := k) (x := 0) (y := 1) (by omega) (by omega) (by omega)
  have hif : ∀ {α : Type} (x y : α), (if nI k = (0 : Int32) then x else if nI k = (1 : Int32) then x else y) = x := fun x y => by
    have : k = 0 ∨ k = 1 := by omega
    rcases this with rfl | rfl <;> rfl
  have hrb : f_X5_readBridge v vC vT = some (nI 1, vF, vC') := by
    unfold f_X5_readBridge
    rw [full_b hG (by omega), z_o1, if_pos (show nI 0 = (0 : Int32) from rfl), eA, z_o1, hA.kind (by omega), hKI, z_o1, z_jn, hif, eB, z_o1, hkw vB 0 t7 t9 (by omega), z_o2, if_neg (show ¬ nI 1 = (0 : Int32) by decide), eD, z_o1, hkw vD 1 u7 u9 (by omega), z_o2, if_neg (show ¬ nI 1 = (0 : Int32) by decide), t9, u9, hlp, z_o1, if_pos (show nI 0 = (0 : Int32) from rfl), eC', z_o1, eE, z_o1, eF, z_o2]
    rfl
  refine ⟨vF, vC', ?_, hF, g'⟩
  have hx := x_isWord h.1 h.2.1 (by omega) (i := 10) (by decide)
  have hy := x_isWord h.1 h.2.1 (by omega) (i := 19) (by decide)
  have hz := x_isWord h.1 h.2.1 (by omega) (i := 4) (by decide)
  rw [isW_no (i := 4) (j := 10) (by decide) (by decide) (by decide) iw] at hx
  rw [isW_no (i := 4) (j := 19) (by decide) (by decide) (by decide) iw] at hy
  unfold f_X5_readStatement
  rw [hx, z_o1, if_pos (show nI (if false = true then 1 else 0) = (0 : Int32) from rfl), hy, z_o1, if_pos (show nI (if false = true then 1 else 0) = (0 : Int32) from rfl), hz, iw, z_o1, if_neg (by decide), hrb, z_o3]
  rfl
def hdT (I : Nat) : List Nat := wdS 8 ++ [48 + I] ++ wdS 2
theorem SN2_P1 (i : Nat) : SN2 (P1 i) := fun k h1 h2 => by
  unfold P1
  rw [z_u2 _ _ (by omega), z_u2 _ _ (by omega)]
  unfold PLr
  rw [if_neg (by omega), if_pos (by omega)]
theorem x_clear4 (vC vT : Vs) {i : Nat} (h1 : 1 ≤ i) (h8 : i ≤ 8) : ∃ vC' vT', f_X4_clear vC vT (nI i) = some (vC', vT') ∧ GR (P1 i) vC' vT' ∧ ZC (P1 i) vC' := by
  obtain ⟨vC', e1, r1, z1⟩ := x_clearC vC h1 h8
  obtain ⟨vT', e2, r2⟩ := x_clearT vT h8
  refine ⟨vC', vT', ?_, ⟨P1_WFc h1 h8, P1_WFt h8, r1, r2⟩, fun w _ h => z1 w h⟩
  unfold f_X4_clear
  rw [e1, z_o1, e2, z_o1]
theorem p_head {B : Nat → Nat} {M : Nat} {v vC vT : Vs} (h : CH B M 0 v) {I : Nat} (h1 : 1 ≤ I) (h8 : I ≤ 8) (hP : PC B 0 (hdT I)) (hM : 10 ≤ M) (hne : B 10 ≠ 32) :
    ∃ v' vC' vT', f_X5_readCircuit v vC vT = some (nI 1, v', vC', vT') ∧ CH B M 10 v' ∧ GR (P1 I) vC' vT' ∧ ZC (P1 I) vC' := by
  have l8 : (wdS 8).length = 8 := by decide +kernel
  have e8 : wdS 8 = wdS 7 ++ [32] := by decide +kernel
  have l7 : (wdS 7).length = 7 := by decide +kernel
  have e2 : wdS 2 = [59] := by decide +kernel
  unfold hdT at hP
  have a1 := hP.app
  have a2 := a1.1.app
  have d := a2.2.one
  rw [l8] at d
  have t := a1.2
  rw [e2, List.length_append, l8] at t
  have t := t.one
  have c := a2.1
  rw [e8] at c
  have c := c.app
  have c2 := c.2.one
  rw [l7] at c2
  have d : B 8 = 48 + I := d
  have t : B 9 = 59 := t
  have c2 : B 7 = 32 := c2
  have hl7 : wl 7 = 7 := rfl
  obtain ⟨iw, vA, eA, hA⟩ := h.word (i := 7) (by decide) (by rw [hl7]; omega) c.1 (by rw [hl7]; show isLt (B 7) = false; rw [c2]; exact lt_sp.1)
  rw [hl7, Nat.zero_add, sp_1 (by omega) c2 (by show B 8 ≠ 32; rw [d]; omega)] at hA
  obtain ⟨t7, t9, vB, eB, hB⟩ := hA.dig (d := I) (by omega) (by omega) d (by show isDg (B 9) = false; rw [t]; exact lt_sp.2.2.2)
  rw [sp_0 (by show B 9 ≠ 32; rw [t]; decide)] at hB
  obtain ⟨x7, vD, eD, hD⟩ := hB.end3 (by omega) t
  rw [sp_0 hne] at hD
  obtain ⟨vC', vT', eC, g, z⟩ := x_clear4 vC vT h1 h8
  refine ⟨vD, vC', vT', ?_, hD, g, z⟩
  have hx := x_isWord h.1 h.2.1 (by omega) (i := 7) (by decide)
  unfold f_X5_readCircuit
  rw [hx, iw, z_o1, if_neg (by decide), eA, z_o1, t7, if_pos (show nI 2 = (2 : Int32) from rfl), z_jn, t9, z_l1, ilf (by omega) (by omega), z_l8, ift h8 (by omega), eC, z_o2, eB, z_o1, eD, z_o2]
  rfl
