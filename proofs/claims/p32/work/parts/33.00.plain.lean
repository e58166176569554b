/-! the plain row, the cleared circuit, the first state -/
def PLr (k : Nat) : Int32 := if 8 ≤ k ∧ k < 32 then im1 else if 310 ≤ k ∧ k < 406 then nI 2 else nI 0
def P1 (i : Nat) : Nat → Int32 := upd (upd PLr 0 (nI i)) 1 (nI i)
theorem P1_at {i : Nat} (hi : i < 2147483648) : NI (P1 i) = i ∧ NW (P1 i) = i ∧ NO (P1 i) = 0 ∧ NB (P1 i) = 0 ∧ NT (P1 i) = 0 ∧ P1 i 0 = nI i ∧ P1 i 1 = nI i ∧ ∀ k, 2 ≤ k → P1 i k = PLr k := by
  have a : P1 i 0 = nI i := by unfold P1; rw [z_u2 _ _ (by omega), z_u1 _ _ rfl]
  have b : P1 i 1 = nI i := by unfold P1; rw [z_u1 _ _ rfl]
  have c : ∀ k, 2 ≤ k → P1 i k = PLr k := fun k hk => by unfold P1; rw [z_u2 _ _ (by omega), z_u2 _ _ (by omega)]
  have z : ∀ k, 2 ≤ k → k < 8 → nn (P1 i k) = 0 := fun k h1 h2 => by
    rw [c k h1]
    unfold PLr
    rw [if_neg (by omega), if_neg (by omega)]
    rfl
  exact ⟨by show nn (P1 i 0) = i; rw [a, nn_nI hi], by show nn (P1 i 1) = i; rw [b, nn_nI hi], z 2 (by omega) (by omega), z 3 (by omega) (by omega), z 4 (by omega) (by omega), a, b, c⟩
theorem P1_WFc {i : Nat} (h1 : 1 ≤ i) (h8 : i ≤ 8) : WFc (P1 i) := by
  obtain ⟨a, b, c, d, e, f, g, h⟩ := P1_at (i := i) (by omega)
  unfold WFc
  rw [a, b, c, d, f, g, h 2 (by omega), h 3 (by omega)]
  refine ⟨⟨rfl, h1, h8⟩, ⟨rfl, Nat.le_refl _, by omega⟩, ⟨rfl, by omega⟩, ⟨rfl, by omega⟩, fun w hw => ?_, fun w h2 h3 => by omega, fun w k h2 h3 => by omega, fun o ho => by omega, fun b hb => by omega⟩
  rw [h _ (by omega), h _ (by omega)]
  unfold PLr
  rw [if_pos (by omega), if_neg (by omega), if_neg (by omega)]
  exact ⟨rfl, rfl⟩
theorem P1_WFt {i : Nat} (h8 : i ≤ 8) : WFt (P1 i) := by
  obtain ⟨a, b, c, d, e, f, g, h⟩ := P1_at (i := i) (by omega)
  unfold WFt
  rw [e, h 4 (by omega)]
  exact ⟨⟨rfl, by omega⟩, fun t i h1 => by omega, fun t o h1 => by omega⟩
theorem x_clearC (v : Vs) {i : Nat} (h1 : 1 ≤ i) (h8 : i ≤ 8) : ∃ v', f_X0_clear v (nI i) = some v' ∧ RC (P1 i) v' ∧ ∀ w, w < 24 → v'.2.1 7 w = nI 0 ∧ v'.2.1 8 w = nI 0 ∧ v'.2.1 9 w = nI 0 := by
  obtain ⟨a, b, c, d, e, f, g, h⟩ := P1_at (i := i) (by omega)
  show Ok (f_X0_clear v (nI i)) (fun v' => RC (P1 i) v' ∧ ∀ w, w < 24 → v'.2.1 7 w = nI 0 ∧ v'.2.1 8 w = nI 0 ∧ v'.2.1 9 w = nI 0)
  unfold f_X0_clear
  refine ok_bn (ok_bn (ok_bn (ok_bn ?_)))
  refine zl2 (I := fun m x v' => ∃ w, x = nI w ∧ w ≤ 24 ∧ m = 24 - w ∧ v'.1 0 = nI i ∧ v'.1 1 = nI i ∧ v'.1 2 = nI 0 ∧ v'.1 3 = nI 0 ∧ ∀ j, j < w → v'.2.1 4 j = im1 ∧ v'.2.1 5 j = nI 0 ∧ v'.2.1 7 j = nI 0 ∧ v'.2.1 8 j = nI 0 ∧ v'.2.1 9 j = nI 0) ?_ FU 24 _ _ (by unfold FU; omega) ⟨0, rfl, by omega, by omega, ?_, ?_, ?_, ?_, fun j hj => by omega⟩
  · rintro m x v' self ⟨w, rfl, hle, rfl, k0, k1, k2, k3, hz⟩ ih
    unfold f_X0_clear_L22
    rw [z_l24]
    by_cases hb : 24 ≤ w
    · rw [ift hb (by omega)]
      refine ok_some ⟨?_, fun w hw => ⟨(hz w (by omega)).2.2.1, (hz w (by omega)).2.2.2.1, (hz w (by omega)).2.2.2.2⟩⟩
      unfold RC
      rw [a, b, c, d]
      refine ⟨⟨k0, k1, k2, k3⟩, fun w hw => ?_, fun w k h2 h3 => by omega, fun w hw => ?_, fun o ho => by omega, fun b hb => by omega⟩
      · obtain ⟨z4, z5, z7, z8, z9⟩ := hz w (by omega)
        rw [z4, z5, h _ (by omega), h _ (by omega)]
        unfold PLr
        rw [if_pos (by omega), if_neg (by omega), if_neg (by omega)]
        exact ⟨rfl, rfl⟩
      · obtain ⟨z4, z5, z7, z8, z9⟩ := hz w (by omega)
        rw [z7, z8, z9, lev_in (by rw [a]; exact hw), bel_in (by rw [a]; exact hw), useN_in i (by rw [a]; exact Nat.le_refl _)]
        exact ⟨rfl, rfl, rfl⟩
    · rw [iff_ hb (by omega)]
      have hin : inb (nI w) 24 = true := z_inb (by omega) (by omega)
      refine ok_gd hin (ok_bn (ok_gd hin (ok_bn (ok_gd hin (ok_bn (ok_gd hin (ok_bn (ok_gd hin (ok_bn ?_)))))))))
      rw [z_cl (by omega), z_p1]
      refine ih _ _ _ (by omega) ⟨w + 1, rfl, by omega, rfl, k0, k1, k2, k3, fun j hj => ?_⟩
      simp only [z_sI2, z_sI3, ne_eq, Nat.reduceEqDiff, not_false_eq_true]
      by_cases e : j = w
      · rw [z_u1 _ _ e, z_u1 _ _ e, z_u1 _ _ e, z_u1 _ _ e, z_u1 _ _ e]
        exact ⟨rfl, rfl, rfl, rfl, rfl⟩
      · rw [z_u2 _ _ e, z_u2 _ _ e, z_u2 _ _ e, z_u2 _ _ e, z_u2 _ _ e]
        exact hz j (by omega)
  · rw [z_sF2 _ _ _ (by decide), z_sF2 _ _ _ (by decide), z_sF2 _ _ _ (by decide), z_sF1]
  · rw [z_sF2 _ _ _ (by decide), z_sF2 _ _ _ (by decide), z_sF1]
  · rw [z_sF2 _ _ _ (by decide), z_sF1]
    rfl
  · rw [z_sF1]
    rfl
theorem RT_0 {i : Nat} (h8 : i ≤ 8) {v : Vs} (h0 : v.1 0 = nI 0) (h : ∀ o, o < 6 → v.2.1 3 o = nI 0 ∧ v.2.1 4 o = nI 0) : RT (P1 i) v := by
  obtain ⟨a, b, c, d, e, f, g, q⟩ := P1_at (i := i) (by omega)
  unfold RT
  rw [e]
  refine ⟨h0, fun t i h1 => by omega, fun o t ho ht => ?_⟩
  rw [(h o ho).1, (h o ho).2, bI_0]
  have : ¬ t < 0 := by omega
  simp
theorem x_clearT (v : Vs) {i : Nat} (h8 : i ≤ 8) : ∃ v', f_X6_clear v = some v' ∧ RT (P1 i) v' := by
  show Ok (f_X6_clear v) (fun v' => RT (P1 i) v')
  unfold f_X6_clear
  refine ok_bn ?_
  refine ok_o1 (P := fun v' => RT (P1 i) v') ?_ (fun a ha => ok_some ha)
  unfold f_X6_clearSeen
  refine zl2 (I := fun m x v' => ∃ o, x = nI o ∧ o ≤ 6 ∧ m = 6 - o ∧ v'.1 0 = nI 0 ∧ ∀ u, u < o → v'.2.1 3 u = nI 0 ∧ v'.2.1 4 u = nI 0) ?_ FU 6 _ _ (by unfold FU; omega) ⟨0, rfl, by omega, by omega, by rw [z_sF1]; rfl, fun u hu => by omega⟩
  rintro m x v' self ⟨o, rfl, hle, rfl, f1, hz⟩ ih
  unfold f_X6_clearSeen_L2
  rw [z_l6]
  by_cases hb : 6 ≤ o
  · rw [ift hb (by omega)]
    exact ok_some (RT_0 h8 f1 (fun u hu => hz u (by omega)))
  · rw [iff_ hb (by omega)]
    refine ok_gd (z_inb (by omega) (by omega)) ?_
    refine ok_bn ?_
    refine ok_gd (z_inb (by omega) (by omega)) ?_
    refine ok_bn ?_
    rw [z_cl (by omega), z_l1, nI_add]
    refine ih _ _ _ (by omega) ⟨o + 1, rfl, by omega, rfl, f1, fun u hu => ?_⟩
    rw [z_sI3 _ _ _ _ (by decide), z_sI2, z_sI2, z_sI3 _ _ _ _ (by decide)]
    by_cases e : u = o
    · rw [z_u1 _ _ e, z_u1 _ _ e]
      exact ⟨rfl, rfl⟩
    · rw [z_u2 _ _ e, z_u2 _ _ e]
      exact hz u (by omega)
