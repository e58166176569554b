/-! the other statements of a known text -/
def otT (w : Nat → Nat) : List Nat := wdS 20 ++ [48 + w 0] ++ [32] ++ [48 + w 1] ++ [32] ++ [48 + w 2] ++ [59]
def outQ (q : Nat → Int32) (w : Nat → Nat) : Nat → Nat → Int32
  | 0 => q
  | k + 1 => upd (upd (outQ q w k) (152 + k) (nI (w k))) 2 (nI (k + 1))
theorem full_o {q : Nat → Int32} {vC vT : Vs} (hG : GR q vC vT) (h6 : NO q < 6) : f_X0_isFullOfOutputs vC = some (nI 0) := by
  obtain ⟨hw, ht, hC, hT⟩ := hG
  unfold f_X0_isFullOfOutputs
  rw [z_jn, hC.1.2.2.1, z_l6, ilt h6 (by omega)]
  rfl
theorem full_b {q : Nat → Int32} {vC vT : Vs} (hG : GR q vC vT) (h8 : NB q < 8) : f_X0_isFullOfBridges vC = some (nI 0) := by
  obtain ⟨hw, ht, hC, hT⟩ := hG
  unfold f_X0_isFullOfBridges
  rw [z_jn, hC.1.2.2.2, z_l8, ilt h8 (by omega)]
  rfl
theorem ot_at {B : Nat → Nat} {s : Nat} {w : Nat → Nat} (hP : PC B s (otT w)) : PC B s (wdS 19) ∧ B (s + 6) = 32 ∧ (∀ k, k < 3 → B (s + 7 + 2 * k) = 48 + w k ∧ B (s + 7 + 2 * k + 1) = if k < 2 then 32 else 59) := by
  have l20 : (wdS 20).length = 7 := by decide +kernel
  have e20 : wdS 20 = wdS 19 ++ [32] := by decide +kernel
  have l19 : (wdS 19).length = 6 := by decide +kernel
  unfold otT at hP
  have a1 := hP.app
  have a2 := a1.1.app
  have a3 := a2.1.app
  have a4 := a3.1.app
  have a5 := a4.1.app
  have a6 := a5.1.app
  have b1 := a1.2.one
  have b2 := a2.2.one
  have b3 := a3.2.one
  have b4 := a4.2.one
  have b5 := a5.2.one
  have b6 := a6.2.one
  simp only [List.length_append, List.length_cons, List.length_nil, l20] at b1 b2 b3 b4 b5 b6
  have c := a6.1
  rw [e20] at c
  have c := c.app
  have c2 := c.2.one
  rw [l19] at c2
  refine ⟨c.1, c2, fun k hk => ?_⟩
  have : k = 0 ∨ k = 1 ∨ k = 2 := by omega
  rcases this with rfl | rfl | rfl
  · exact ⟨b6, b5⟩
  · exact ⟨b4, b3⟩
  · exact ⟨b2, b1⟩
theorem p_out {q : Nat → Int32} {vC vT : Vs} (hG : GR q vC vT) (hS : SN2 q) (h0 : NO q = 0) {B : Nat → Nat} {M s : Nat} {v : Vs} (h : CH B M s v) {w : Nat → Nat} (hw1 : ∀ k, k < 3 → w k < NW q ∧ w k < 10) (hwd : ∀ j k, j < k → k < 3 → w j ≠ w k) (hP : PC B s (otT w)) (hM : s + 13 ≤ M) (hne : rn isSp B M (s + 13) = s + 13) :
    ∃ v' vC', f_X5_readStatement v vC vT = some (nI 1, v', vC', vT) ∧ CH B M (s + 13) v' ∧ GR (outQ q w 3) vC' vT := by
  obtain ⟨o1, o2, o3⟩ := ot_at hP
  have hl19 : wl 19 = 6 := rfl
  have hnw : NW q ≤ 24 := hG.1.nf.2.1
  obtain ⟨iw, vA, eA, hA⟩ := h.word (i := 19) (by decide) (by rw [hl19]; omega) o1 (by rw [hl19, o2]; exact lt_sp.1)
  rw [hl19, sp_1 (by omega) o2 (by have := (o3 0 (by omega)).1; rw [Nat.mul_zero, Nat.add_zero] at this; rw [show s + 6 + 1 = s + 7 by omega, this]; omega)] at hA
  have hdig : ∀ k, k < 3 → ∀ vD, CH B M (s + 7 + 2 * k) vD → vD.1 7 = nI 2 ∧ vD.1 9 = nI (w k) ∧ ∃ v', f_X5_advance vD = some v' ∧ CH B M (if k + 1 < 3 then s + 7 + 2 * (k + 1) else s + 12) v' := fun k hk vD hD => by
    obtain ⟨d1, d2⟩ := o3 k hk
    obtain ⟨t7, t9, vE, eE, hE⟩ := hD.dig (hw1 k hk).2 (by omega) d1 (by rw [d2]; split; exact lt_sp.2.2.1; exact lt_sp.2.2.2)
    refine ⟨t7, t9, vE, eE, ?_⟩
    by_cases c : k + 1 < 3
    · rw [if_pos (by omega)] at d2
      have d3 := (o3 (k + 1) c).1
      rw [sp_1 (by omega) d2 (by rw [show s + 7 + 2 * k + 1 + 1 = s + 7 + 2 * (k + 1) by omega, d3]; omega)] at hE
      rw [if_pos c, show s + 7 + 2 * (k + 1) = s + 7 + 2 * k + 1 + 1 by omega]
      exact hE
    · rw [if_neg (by omega)] at d2
      rw [sp_0 (by rw [d2]; decide)] at hE
      rw [if_neg c, show s + 12 = s + 7 + 2 * k + 1 by omega]
      exact hE
  have hfin : Ok (f_X5_readOutputs v vC vT) (fun r => r.1 = nI 1 ∧ CH B M (s + 13) r.2.1 ∧ GR (outQ q w 3) r.2.2 vT) := by
    unfold f_X5_readOutputs
    rw [eA, z_o1]
    have tA := (hdig 0 (by omega) vA (by rw [Nat.mul_zero, Nat.add_zero]; exact hA)).1
    rw [tA, if_pos (show nI 2 = (2 : Int32) from rfl)]
    refine zl3 (I := fun m x2 vD u => ∃ k, x2 = nI k ∧ k ≤ 3 ∧ CH B M (if k < 3 then s + 7 + 2 * k else s + 12) vD ∧ GR (outQ q w k) u vT ∧ SN2 (outQ q w k) ∧ NO (outQ q w k) = k ∧ NW (outQ q w k) = NW q ∧ (∀ o, o < k → ou (outQ q w k) o = w o) ∧ m = 3 - k) ?_ FU 3 _ _ _ (by unfold FU; omega) ⟨0, rfl, by omega, by rw [if_pos (by omega)]; exact hA, hG, hS, h0, rfl, fun o ho => by omega, by omega⟩
    rintro m x2 vD u self ⟨k, rfl, hle, hD, gu, su, nou, nwu, hou, rfl⟩ ih
    unfold f_X5_readOutputs_L29
    refine ok_jn ?_
    rw [z_l6, ilf (by omega) (by omega)]
    by_cases hb : 3 ≤ k
    · obtain rfl : k = 3 := by omega
      rw [if_neg (by omega)] at hD
      obtain ⟨t7, vE, eE, hE⟩ := hD.end3 (by omega) (by have := (o3 2 (by omega)).2; rw [if_neg (by omega)] at this; exact this)
      rw [hne] at hE
      rw [t7, if_neg (by decide), eE, z_o2]
      exact ok_gd (by decide) (ok_some ⟨rfl, hE, gu⟩)
    · rw [if_pos (by omega)] at hD
      obtain ⟨t7, t9, vE, eE, hE⟩ := hdig k (by omega) vD hD
      obtain ⟨w1, w2⟩ := hw1 k (by omega)
      obtain ⟨gw, gt, gC, gT⟩ := id gu
      rw [t7, if_pos (show nI 2 = (2 : Int32) from rfl), t9, gC.1.2.1, nwu, ilt w1 (by omega)]
      have hoI : outI (outQ q w k) (w k) = im1 := by
        unfold outI
        refine fstI_no (fun o ho => decide_eq_false ?_)
        rw [nou] at ho
        rw [hou o ho]
        exact hwd o k ho (by omega)
      rw [x_outputOf gw gC (by rw [nwu]; exact w1), hoI, z_o1, if_pos (by decide), full_o gu (by omega), z_o1, if_pos (show nI 0 = (0 : Int32) from rfl)]
      obtain ⟨u2, eu2, g2, n2, a2, m2⟩ := put_out gu su (by omega) (n := w k) (by rw [nwu]; exact w1)
      rw [nou] at g2 n2 m2
      rw [eu2, z_o1, eE, z_o1, z_l1, nI_add]
      refine ih _ _ _ _ (by omega) ⟨k + 1, rfl, by omega, hE, g2, fun c h1 h2 => ?_, n2, m2.trans nwu, fun o ho => ?_, rfl⟩
      · show upd (upd (outQ q w k) (152 + k) (nI (w k))) 2 (nI (k + 1)) c = nI 2
        rw [z_u2 _ _ (by omega), z_u2 _ _ (by omega)]
        exact su c h1 h2
      · show nn (upd (upd (outQ q w k) (152 + k) (nI (w k))) 2 (nI (k + 1)) (152 + o)) = w o
        rw [z_u2 _ _ (by omega)]
        rcases Nat.lt_or_ge o k with z | z
        · rw [z_u2 _ _ (by omega)]
          exact hou o z
        · obtain rfl : o = k := by omega
          rw [z_u1 _ _ rfl, nn_nI (by omega)]
  obtain ⟨⟨a, b, c⟩, e1, e2, e3, e4⟩ := hfin
  refine ⟨b, c, ?_, e3, e4⟩
  have hx := x_isWord h.1 h.2.1 (by omega) (i := 10) (by decide)
  have hy := x_isWord h.1 h.2.1 (by omega) (i := 19) (by decide)
  rw [isW_no (i := 19) (j := 10) (by decide) (by decide) (by decide) iw] at hx
  unfold f_X5_readStatement
  rw [hx, z_o1, if_pos (show nI (if false = true then 1 else 0) = (0 : Int32) from rfl), hy, iw, z_o1, if_neg (by decide), e1, z_o3, show a = nI 1 from e2]
  rfl
