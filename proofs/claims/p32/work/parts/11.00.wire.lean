/-! levels, uses, outputs: the reference and the class -/
theorem lev_in {r : Nat → Int32} {w : Nat} (h : w < NI r) : lev r w = 0 := by
  unfold lev
  rw [ev_at, levF, if_pos h]
theorem mxf_cong {f g : Nat → Nat} : ∀ n, (∀ k, k < n → f k = g k) → mxf f n = mxf g n
  | 0, _ => rfl
  | n + 1, h => by
    show (if f n ≤ mxf f n then mxf f n else f n) = (if g n ≤ mxf g n then mxf g n else g n)
    rw [mxf_cong n (fun k hk => h k (by omega)), h n (by omega)]
theorem mxf_le {f : Nat → Nat} {m : Nat} : ∀ n, (∀ k, k < n → f k ≤ m) → mxf f n ≤ m
  | 0, _ => Nat.zero_le m
  | n + 1, h => by
    have h1 := mxf_le n (fun k hk => h k (by omega))
    have h2 := h n (by omega)
    show (if f n ≤ mxf f n then mxf f n else f n) ≤ m
    split <;> omega
theorem lev_at {r : Nat → Int32} (hw : WFc r) {w : Nat} (h : ¬ w < NI r) (h2 : w < NW r) : lev r w = mxf (fun k => lev r (op r w k) + 1) (hv r w) := by
  have ho := hw.2.2.2.2.2.2.1
  unfold lev
  rw [ev_at, levF, if_neg h]
  exact mxf_cong _ (fun k hk => by rw [evs_ev _ (ho w k (by omega) h2 hk).2])
theorem lev_le {r : Nat → Int32} (hw : WFc r) : ∀ n w, w < n → w < NW r → lev r w ≤ w
  | 0, w, h, _ => by omega
  | n + 1, w, h, h2 => by
    by_cases h1 : w < NI r
    · rw [lev_in h1]; omega
    · rw [lev_at hw h1 h2]
      exact mxf_le _ (fun k hk => by
        have ho := (hw.2.2.2.2.2.2.1 w k (by omega) h2 hk).2
        have := lev_le hw n (op r w k) (by omega) (by omega)
        omega)
def gmax (r : Nat → Int32) : Nat := mxf (lev r) (NW r)
theorem gmaxN_le {r : Nat → Int32} (hw : WFc r) {n : Nat} (h : n ≤ NW r) : mxf (lev r) n ≤ 24 := mxf_le _ (fun k hk => by
  have := lev_le hw (k + 1) k (by omega) (by omega)
  have := hw.nf
  omega)
theorem x_greatest {r : Nat → Int32} (hw : WFc r) {vC : Vs} (hC : RC r vC) : f_X0_greatestLevel vC = some (nI (gmax r)) := by
  have hn := hw.nf
  refine ok_get ?_
  unfold f_X0_greatestLevel
  refine zl2 (I := fun m x y => ∃ w, x = nI (mxf (lev r) w) ∧ y = nI w ∧ w ≤ NW r ∧ m = NW r - w) ?_ FU (NW r) _ _ (by unfold FU; omega) ⟨0, rfl, rfl, by omega, by omega⟩
  rintro m x y self ⟨w, rfl, rfl, hle, rfl⟩ ih
  unfold f_X0_greatestLevel_L4
  rw [hC.1.2.1]
  by_cases hb : NW r ≤ w
  · rw [ift hb (by omega)]
    have e : w = NW r := by omega
    subst e
    exact ok_some rfl
  · rw [iff_ hb (by omega)]
    have l1 := lev_le hw (w + 1) w (by omega) (by omega)
    have l2 := gmaxN_le hw (n := w) (by omega)
    have em : mxf (lev r) (w + 1) = if lev r w ≤ mxf (lev r) w then mxf (lev r) w else lev r w := rfl
    refine ok_gd (z_inb (by omega) (by omega)) ?_
    refine ok_bn ?_
    rw [z_cl (by omega), (hC.2.2.2.1 w (by omega)).1, z_l1, nI_add]
    by_cases hq : lev r w ≤ mxf (lev r) w
    · rw [ilf (by omega) (by omega)]
      exact ih _ _ _ (by omega) ⟨w + 1, by rw [em, if_pos hq], rfl, by omega, rfl⟩
    · rw [ilt (by omega) (by omega)]
      exact ih _ _ _ (by omega) ⟨w + 1, by rw [em, if_neg hq], rfl, by omega, rfl⟩
theorem opc_le (r : Nat → Int32) (w g : Nat) : ∀ n, opc r w g n ≤ n
  | 0 => Nat.le_refl 0
  | n + 1 => by
    have := opc_le r w g n
    show opc r w g n + _ ≤ _
    split <;> omega
theorem useN_le {r : Nat → Int32} (hw : WFc r) (w : Nat) : ∀ n, n ≤ NW r → useN r w n ≤ 4 * n
  | 0, _ => Nat.le_refl 0
  | n + 1, h => by
    have h1 := useN_le hw w n (by omega)
    show useN r w n + _ ≤ _
    split
    · omega
    · have h2 := opc_le r w n (hv r n)
      have h3 := (hw.gate (w := n) (by omega) (by omega)).2.2.2.2.2.2.2.1
      omega
theorem useN_in {r : Nat → Int32} {w : Nat} : ∀ n, n ≤ NI r → useN r w n = 0
  | 0, _ => rfl
  | n + 1, h => by
    show useN r w n + _ = 0
    rw [useN_in n (by omega), if_pos (by omega)]
def outI (r : Nat → Int32) (w : Nat) : Int32 := fstI (fun o => decide (ou r o = w)) (NO r)
theorem x_outputOf {r : Nat → Int32} (hw : WFc r) {vC : Vs} (hC : RC r vC) {w : Nat} (h2 : w < NW r) : f_X0_outputOf vC (nI w) = some (outI r w) := by
  have hn := hw.nf
  refine ok_get ?_
  unfold f_X0_outputOf
  refine zl1 (I := fun m x => ∃ o, x = nI o ∧ o ≤ NO r ∧ m = NO r - o ∧ ∀ u, u < o → decide (ou r u = w) = false) ?_ FU (NO r) _ (by unfold FU; omega) ⟨0, rfl, by omega, by omega, fun u hu => by omega⟩
  rintro m x self ⟨o, rfl, hle, rfl, hz⟩ ih
  unfold f_X0_outputOf_L2
  rw [hC.1.2.2.1]
  by_cases hb : NO r ≤ o
  · rw [ift hb (by omega)]
    refine ok_some ?_
    unfold outI
    rw [fstI_no (fun u hu => hz u (by omega))]
    rfl
  · rw [iff_ hb (by omega)]
    obtain ⟨a1, a2⟩ := hw.2.2.2.2.2.2.2.1 o (by omega)
    refine ok_gd (z_inb (by omega) (by omega)) ?_
    rw [z_cl (by omega), hC.2.2.2.2.1 o (by omega), a1]
    by_cases hq : ou r o = w
    · rw [iet hq]
      refine ok_some ?_
      unfold outI
      rw [fstI_yes (k := o) (by omega) (by simp [hq]) hz]
    · rw [ief hq (by omega) (by omega), z_l1, nI_add]
      refine ih _ _ (by omega) ⟨o + 1, rfl, by omega, rfl, fun u hu => ?_⟩
      by_cases hu2 : u = o
      · rw [hu2]; simp [hq]
      · exact hz u (by omega)
