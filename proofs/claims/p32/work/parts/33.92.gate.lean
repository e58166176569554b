/-! the end of a gate: levels, uses and belongs -/
theorem nI_or {a b : Nat} : nI a ||| nI b = nI (a ||| b) := by
  apply bI_ext
  intro k _
  rw [bI_or, bI_nI, bI_nI, bI_nI, Nat.testBit_or]
  cases decide (k < 32) <;> rfl
theorem useN_0 {r : Nat → Int32} (hw : WFc r) {w : Nat} : ∀ n, n ≤ w + 1 → n ≤ NW r → useN r w n = 0
  | 0, _, _ => rfl
  | n + 1, h, h2 => by
    show useN r w n + _ = 0
    rw [useN_0 hw n (by omega) (by omega)]
    by_cases h1 : n < NI r
    · rw [if_pos h1]
    · rw [if_neg h1]
      obtain ⟨-, -, -, -, -, -, -, -, g8⟩ := hw.gate (w := n) (by omega) (by omega)
      have key : ∀ m, m ≤ hv r n → opc r w n m = 0 := fun m => by
        induction m with
        | zero => intro _; rfl
        | succ m ih =>
          intro hm
          show opc r w n m + _ = 0
          rw [ih (by omega), if_neg (by have := (g8 m (by omega)).2; omega)]
      rw [key _ (Nat.le_refl _)]
theorem x_endGate {s : Nat → Int32} {v : Vs} {W n : Nat} (hw : WFc s) (hW : NW s = W + 1) (hI : NI s ≤ W) (hn : hv s W = n) (v1 : v.1 1 = nI W) (h5 : v.2.1 5 W = nI n) (h6 : ∀ k, k < n → v.2.1 6 (W * 4 + k) = nI (op s W k)) (h7 : ∀ w, w < W → v.2.1 7 w = nI (lev s w) ∧ v.2.1 8 w = nI (useN s w W) ∧ v.2.1 9 w = nI (bel s w)) (hz : ∀ w, W ≤ w → w < 24 → v.2.1 7 w = nI 0 ∧ v.2.1 8 w = nI 0 ∧ v.2.1 9 w = nI 0) : ∃ v', f_X0_endGate v = some v' ∧ v'.1 1 = nI (W + 1) ∧ (∀ j, j ≠ 1 → v'.1 j = v.1 j) ∧ (∀ j, j ≠ 7 → j ≠ 8 → j ≠ 9 → v'.2.1 j = v.2.1 j) ∧ (∀ w, w < W + 1 → v'.2.1 7 w = nI (lev s w) ∧ v'.2.1 8 w = nI (useN s w (W + 1)) ∧ v'.2.1 9 w = nI (bel s w)) ∧ ∀ w, W + 1 ≤ w → w < 24 → v'.2.1 7 w = nI 0 ∧ v'.2.1 8 w = nI 0 ∧ v'.2.1 9 w = nI 0 := by
  have hnf := hw.nf
  have hW24 : W < 24 := by omega
  obtain ⟨-, -, -, -, -, -, -, g4, g8⟩ := hw.gate (w := W) hI (by omega)
  rw [hn] at g4 g8
  have hin : inb (nI W) 24 = true := z_inb (by omega) (by omega)
  have key : Ok (f_X0_endGate v) (fun v' => v'.1 1 = nI (W + 1) ∧ (∀ j, j ≠ 1 → v'.1 j = v.1 j) ∧ (∀ j, j ≠ 7 → j ≠ 8 → j ≠ 9 → v'.2.1 j = v.2.1 j) ∧ (∀ w, w < W + 1 → v'.2.1 7 w = nI (lev s w) ∧ v'.2.1 8 w = nI (useN s w (W + 1)) ∧ v'.2.1 9 w = nI (bel s w)) ∧ ∀ w, W + 1 ≤ w → w < 24 → v'.2.1 7 w = nI 0 ∧ v'.2.1 8 w = nI 0 ∧ v'.2.1 9 w = nI 0) := by
    unfold f_X0_endGate
    refine ok_bn ?_
    rw [v1, z_p1]
    refine zl2 (I := fun m x u => ∃ k, x = nI k ∧ k ≤ n ∧ m = n - k ∧ u.1 = (sF v 1 (nI (W + 1))).1 ∧ (∀ j, j ≠ 7 → j ≠ 8 → j ≠ 9 → u.2.1 j = v.2.1 j) ∧ (u.2.1 7 W = nI (mxf (fun i => lev s (op s W i) + 1) k) ∧ u.2.1 9 W = nI (orf (fun i => bel s (op s W i) ||| 2 ^ op s W i) k)) ∧ (∀ w, w < W → u.2.1 7 w = nI (lev s w) ∧ u.2.1 8 w = nI (useN s w W + opc s w W k) ∧ u.2.1 9 w = nI (bel s w)) ∧ u.2.1 8 W = nI 0 ∧ ∀ w, W < w → w < 24 → u.2.1 7 w = nI 0 ∧ u.2.1 8 w = nI 0 ∧ u.2.1 9 w = nI 0) ?_ FU n _ _ (by unfold FU; omega) ⟨0, rfl, by omega, by omega, rfl, fun j _ _ _ => rfl, ⟨(hz W (by omega) hW24).1, (hz W (by omega) hW24).2.2⟩, h7, (hz W (by omega) hW24).2.1, fun w h1 h2 => hz w (by omega) h2⟩
    rintro m x u self ⟨k, rfl, hk, rfl, u1, ue, ⟨u7, u9⟩, uw, u8W, uz⟩ ih
    unfold f_X0_endGate_L17
    rw [v1]
    refine ok_gd hin ?_
    rw [z_cl (by omega), ue 5 (by decide) (by decide) (by decide), h5]
    by_cases hb : n ≤ k
    · rw [ift hb (by omega)]
      have ek : k = n := by omega
      refine ok_some ⟨?_, fun j hj => ?_, ue, fun w hw1 => ?_, fun w h1 h2 => uz w (by omega) h2⟩
      · rw [u1, z_sF1]
      · rw [u1, z_sF2 _ _ _ hj]
      · have eu : ∀ w, useN s w (W + 1) = useN s w W + opc s w W k := fun w => by
          show useN s w W + (if W < NI s then 0 else opc s w W (hv s W)) = _
          rw [if_neg (by omega), hn, ek]
        by_cases e : w = W
        · rw [e, u7, u9, u8W, lev_at hw (by omega) (by omega), bel_at hw (by omega) (by omega), useN_0 hw (W + 1) (by omega) (by omega), hn, ek]
          exact ⟨rfl, rfl, rfl⟩
        · rw [eu]
          exact uw w (by omega)
    · rw [iff_ hb (by omega), z_l4, z_mul, nI_add]
      refine ok_gd (z_inb (by omega) (by omega)) ?_
      refine ok_bn ?_
      rw [z_cl (by omega), ue 6 (by decide) (by decide) (by decide), h6 k (by omega)]
      have hy := (g8 k (by omega)).2
      obtain ⟨y, hyd⟩ : ∃ y, y = op s W k := ⟨_, rfl⟩
      rw [← hyd] at hy ⊢
      have hiny : inb (nI y) 24 = true := z_inb (by omega) (by omega)
      obtain ⟨y7, y8, y9⟩ := uw y hy
      have hl := lev_le hw (y + 1) y (by omega) (by omega)
      have hmx : mxf (fun i => lev s (op s W i) + 1) k ≤ 24 := mxf_le k (fun i hi => by
        have := (g8 i (by omega)).2
        have := lev_le hw (op s W i + 1) (op s W i) (by omega) (by omega)
        omega)
      have eM : mxf (fun i => lev s (op s W i) + 1) (k + 1) = if lev s y + 1 ≤ mxf (fun i => lev s (op s W i) + 1) k then mxf (fun i => lev s (op s W i) + 1) k else lev s y + 1 := by rw [hyd]; rfl
      have eO : orf (fun i => bel s (op s W i) ||| 2 ^ op s W i) (k + 1) = orf (fun i => bel s (op s W i) ||| 2 ^ op s W i) k ||| (bel s y ||| 2 ^ y) := by rw [hyd]; rfl
      have ec : ∀ w, opc s w W (k + 1) = opc s w W k + (if y = w then 1 else 0) := fun w => by rw [hyd]; rfl
      obtain ⟨mm, hmm⟩ : ∃ mm, mm = mxf (fun i => lev s (op s W i) + 1) k := ⟨_, rfl⟩
      rw [← hmm] at eM u7 hmx
      refine ok_gd hiny ?_
      refine ok_gd hiny ?_
      refine ok_bn ?_
      refine ok_gd hin ?_
      refine ok_gd hiny ?_
      refine ok_gd hin ?_
      refine ok_bn ?_
      refine ok_gd hin ?_
      refine ok_gd hiny ?_
      refine ok_gd hin ?_
      refine ok_bn ?_
      rw [z_cl (by omega), y8, z_p1]
      have f7 : ∀ x, (sI u 8 y x).2.1 7 = u.2.1 7 := fun x => z_sI3 _ _ _ _ (by decide)
      rw [f7, u7, y7, z_p1, z_p1]
      have eif : (if nI mm < nI (lev s y + 1) then nI (lev s y + 1) else nI mm) = nI (mxf (fun i => lev s (op s W i) + 1) (k + 1)) := by
        rw [eM]
        by_cases c : lev s y + 1 ≤ mm
        · rw [ilf (by omega) (by omega), if_pos c]
        · rw [ilt (by omega) (by omega), if_neg c]
      rw [eif]
      have f9 : ∀ x x', (sI (sI u 8 y x) 7 W x').2.1 9 = u.2.1 9 := fun x x' => by rw [z_sI3 _ _ _ _ (by decide), z_sI3 _ _ _ _ (by decide)]
      rw [f9, u9, y9, z_l1, g_shl _ (by omega), nI_or, nI_or, ← eO]
      refine ih _ _ _ (show n - (k + 1) < n - k by omega) ⟨k + 1, rfl, by omega, rfl, ?_, fun j a b c => ?_, ⟨?_, ?_⟩, fun w h1 => ⟨?_, ?_, ?_⟩, ?_, fun w h1 h2 => ⟨?_, ?_, ?_⟩⟩
      · rw [z_sI0, z_sI0, z_sI0, u1]
      · rw [z_sI3 _ _ _ _ c, z_sI3 _ _ _ _ a, z_sI3 _ _ _ _ b]
        exact ue j a b c
      · rw [z_sI3 _ _ _ _ (by decide), z_sI2, z_u1 _ _ rfl]
      · rw [z_sI2, z_u1 _ _ rfl]
      · rw [z_sI3 _ _ _ _ (by decide), z_sI2, z_u2 _ _ (by omega), f7]
        exact (uw w h1).1
      · rw [z_sI3 _ _ _ _ (by decide), z_sI3 _ _ _ _ (by decide), z_sI2, ec]
        by_cases e : w = y
        · rw [z_u1 _ _ e, if_pos e.symm, e]
          rfl
        · rw [z_u2 _ _ e, if_neg (fun z => e z.symm)]
          exact (uw w h1).2.1
      · rw [z_sI2, z_u2 _ _ (by omega), f9]
        exact (uw w h1).2.2
      · rw [z_sI3 _ _ _ _ (by decide), z_sI3 _ _ _ _ (by decide), z_sI2, z_u2 _ _ (by omega)]
        exact u8W
      · rw [z_sI3 _ _ _ _ (by decide), z_sI2, z_u2 _ _ (by omega), f7]
        exact (uz w h1 h2).1
      · rw [z_sI3 _ _ _ _ (by decide), z_sI3 _ _ _ _ (by decide), z_sI2, z_u2 _ _ (by omega)]
        exact (uz w h1 h2).2.1
      · rw [z_sI2, z_u2 _ _ (by omega), f9]
        exact (uz w h1 h2).2.2
  obtain ⟨v', e, h⟩ := key
  exact ⟨v', e, h⟩
