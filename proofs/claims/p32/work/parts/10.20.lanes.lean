/-! the class: a fault, all wires -/
theorem orf_bit {f : Nat → Nat} : ∀ n j, (orf f n).testBit j = true ↔ ∃ k, k < n ∧ (f k).testBit j = true
  | 0, j => by
    simp [orf]
  | n + 1, j => by
    show ((orf f n ||| f n).testBit j = true) ↔ _
    rw [Nat.testBit_or, Bool.or_eq_true, orf_bit n j]
    constructor
    · rintro (⟨k, hk, h⟩ | h)
      · exact ⟨k, by omega, h⟩
      · exact ⟨n, by omega, h⟩
    · rintro ⟨k, hk, h⟩
      by_cases e : k = n
      · rw [e] at h; exact Or.inr h
      · exact Or.inl ⟨k, by omega, h⟩
theorem orf_lt {f : Nat → Nat} {m : Nat} : ∀ n, (∀ k, k < n → f k < 2 ^ m) → orf f n < 2 ^ m
  | 0, _ => Nat.two_pow_pos m
  | n + 1, h => Nat.or_lt_two_pow (orf_lt n (fun k hk => h k (by omega))) (h n (by omega))
theorem orf_cong {f g : Nat → Nat} : ∀ n, (∀ k, k < n → f k = g k) → orf f n = orf g n
  | 0, _ => rfl
  | n + 1, h => by
    show orf f n ||| f n = orf g n ||| g n
    rw [orf_cong n (fun k hk => h k (by omega)), h n (by omega)]
theorem bel_in {r : Nat → Int32} {w : Nat} (h : w < NI r) : bel r w = 0 := by
  unfold bel
  rw [ev_at, belF, if_pos h]
theorem bel_at {r : Nat → Int32} (hw : WFc r) {w : Nat} (h : ¬ w < NI r) (h2 : w < NW r) : bel r w = orf (fun k => bel r (op r w k) ||| 2 ^ op r w k) (hv r w) := by
  have ho := hw.2.2.2.2.2.2.1
  unfold bel
  rw [ev_at, belF, if_neg h]
  exact orf_cong _ (fun k hk => by rw [evs_ev _ (ho w k (by omega) h2 hk).2])
theorem bel_lt {r : Nat → Int32} (hw : WFc r) : ∀ n w, w < n → w < NW r → bel r w < 2 ^ w
  | 0, w, h, _ => by omega
  | n + 1, w, h, h2 => by
    by_cases h1 : w < NI r
    · rw [bel_in h1]; exact Nat.two_pow_pos w
    · rw [bel_at hw h1 h2]
      refine orf_lt _ (fun k hk => ?_)
      have ho := (hw.2.2.2.2.2.2.1 w k (by omega) h2 hk).2
      have h3 := bel_lt hw n (op r w k) (by omega) (by omega)
      exact Nat.or_lt_two_pow (Nat.lt_of_lt_of_le h3 (Nat.pow_le_pow_right (by omega) (by omega))) (Nat.pow_lt_pow_right (by omega) ho)
/-- a wire that hangs on no wire at the fault has its value without the fault -/
theorem bad_far {r : Nat → Int32} (hw : WFc r) {ask : Nat → Nat} {p : Nat} : ∀ n w, w < n → w < NW r → site r p w = false → (∀ j, (bel r w).testBit j = true → site r p j = false) → bad r ask p w = good r ask w
  | 0, w, h, _, _, _ => by omega
  | n + 1, w, h, h2, hs, hb => by
    have h0 : told r ask p w = none := site_told.mpr hs
    by_cases h1 : w < NI r
    · rw [bad_in h0 h1, good_in h1]
    · rw [bad_at hw h0 h1 h2, good_at hw h1 h2]
      have h3 := hw.2.2.2.2.2.1 w (by omega) h2
      refine gval_cong (fun k hk => ?_) h3.2.2.1
      have ho := (hw.2.2.2.2.2.2.1 w k (by omega) h2 hk).2
      rw [bel_at hw h1 h2] at hb
      refine bad_far hw n (op r w k) (by omega) (by omega) (hb _ ?_) (fun j hj => hb j ?_)
      · rw [orf_bit]
        refine ⟨k, hk, ?_⟩
        rw [Nat.testBit_or]
        simp
      · rw [orf_bit]
        refine ⟨k, hk, ?_⟩
        rw [Nat.testBit_or, hj]
        rfl
theorem x_runFault {r : Nat → Int32} (hw : WFc r) {vC vL vG : Vs} (hC : RC r vC) {ask : Nat → Nat → Nat} (ha : ∀ l i, i < NI r → ask l i ≤ 2) (hG : ∀ w, w < NW r → LW vG w (fun l => good r (ask l) w)) {f : Nat} (hf : f < NF r) : Ok (f_X2_runFault vL vC vG (nI f)) (fun v' => v'.1 = vL.1 ∧ v'.2.1 = vL.2.1 ∧ ∀ w, w < NW r → LW v' w (fun l => bad r (ask l) (f + 1) w)) := by
  have hn := hw.nf
  unfold f_X2_runFault
  refine ok_o2 (x_setSites hw hC ha hG hf) ?_
  rintro S v1 ⟨hS, t1, t2, hT⟩
  dsimp only at hS t1 t2 hT
  refine zl2 (I := fun m x v' => ∃ w, x = nI w ∧ w ≤ NW r ∧ m = NW r - w ∧ v'.1 = vL.1 ∧ v'.2.1 = vL.2.1 ∧ (∀ j, j < w → LW v' j (fun l => bad r (ask l) (f + 1) j)) ∧ ∀ j, j < NW r → site r (f + 1) j = true → LW v' j (fun l => bad r (ask l) (f + 1) j)) ?_ FU (NW r) _ _ (by unfold FU; omega) ⟨0, rfl, by omega, by omega, t1, t2, fun j hj => by omega, hT⟩
  rintro m x v' self ⟨w, rfl, hle, rfl, f1, f2, hz, hy⟩ ih
  unfold f_X2_runFault_L12
  rw [hC.1.2.1]
  by_cases hb : NW r ≤ w
  · rw [ift hb (by omega)]
    exact ok_some ⟨f1, f2, fun j hj => hz j (by omega)⟩
  · rw [iff_ hb (by omega)]
    refine ok_o1e (x_hasBit S (by omega)) ?_
    have hSw := hS w (by omega)
    have d1 : decide (w < NW r) = true := by simp; omega
    rw [d1, Bool.and_true] at hSw
    rw [z_jn, z_l1, nI_add]
    by_cases hs : site r (f + 1) w = true
    · rw [hSw, if_pos hs]
      have e : ¬ (nI 1 = 0) := by decide
      rw [if_neg e]
      refine ih _ _ _ (by omega) ⟨w + 1, rfl, by omega, rfl, f1, f2, fun j hj => ?_, hy⟩
      by_cases hj2 : j = w
      · subst hj2
        exact hy j (by omega) hs
      · exact hz j (by omega)
    · have hs' : site r (f + 1) w = false := by simpa using hs
      rw [hSw, if_neg hs]
      have e : (nI 0 = 0) := rfl
      rw [if_pos e]
      refine ok_gd (z_inb (by omega) (by omega)) ?_
      have hbel := (hC.2.2.2.1 w (by omega)).2.2
      rw [z_cl (by omega), hbel]
      -- a gate's rows set at w keep the rest
      have fin : ∀ z o : Int64, NJ z o (fun l => bad r (ask l) (f + 1) w) → Ok (self (nI (w + 1)) (sJ (sJ v' 0 w z) 1 w o)) (fun v' => v'.1 = vL.1 ∧ v'.2.1 = vL.2.1 ∧ ∀ w, w < NW r → LW v' w (fun l => bad r (ask l) (f + 1) w)) := by
        intro z o hN
        refine ih _ _ _ (by omega) ⟨w + 1, rfl, by omega, rfl, f1, f2, fun j hj => ?_, fun j hj hsj => ?_⟩
        · by_cases hj2 : j = w
          · subst hj2
            exact LW.set hN
          · exact (hz j (by omega)).keep hj2
        · have hj2 : j ≠ w := by
            intro q
            rw [q, hs'] at hsj
            cases hsj
          exact (hy j hj hsj).keep hj2
      by_cases hd : ∀ j, (bel r w).testBit j = true → site r (f + 1) j = false
      · have e3 : nI (bel r w) &&& S = 0 := by
          refine (bI_ne0 _).mpr (fun j hj => ?_)
          rw [bI_and, bI_nI, hS j hj]
          by_cases hbj : (bel r w).testBit j = true
          · rw [hd j hbj]
            simp
          · simp [hbj]
        rw [if_pos e3]
        refine ok_gd (z_inb (by omega) (by omega)) ?_
        refine ok_gd (z_inb (by omega) (by omega)) ?_
        refine ok_bn ?_
        refine ok_gd (z_inb (by omega) (by omega)) ?_
        refine ok_gd (z_inb (by omega) (by omega)) ?_
        refine ok_bn ?_
        refine fin _ _ (NJ.cong (f := fun l => good r (ask l) w) (hG w (by omega)) (fun l _ => ?_))
        exact (bad_far hw (w + 1) w (by omega) (by omega) hs' hd).symm
      · have hex : ∃ j, (bel r w).testBit j = true ∧ site r (f + 1) j = true := by
          refine Classical.byContradiction (fun q => hd (fun j hj => ?_))
          cases hq : site r (f + 1) j with
          | false => rfl
          | true => exact absurd ⟨j, hj, hq⟩ q
        have hwi : ¬ w < NI r := by
          intro q
          obtain ⟨j, hj, -⟩ := hex
          rw [bel_in q] at hj
          simp at hj
        have e3 : ¬ (nI (bel r w) &&& S = 0) := by
          obtain ⟨j, hj, hsj⟩ := hex
          have hlt := bel_lt hw (w + 1) w (by omega) (by omega)
          have hjw : j < w := by
            refine Classical.byContradiction (fun q => ?_)
            have := Nat.testBit_lt_two_pow (x := bel r w) (i := j) (Nat.lt_of_lt_of_le hlt (Nat.pow_le_pow_right (by omega) (by omega)))
            rw [this] at hj
            cases hj
          intro q
          have := congrArg (fun x => bI x j) q
          rw [bI_and, bI_nI, hS j (by omega), hj, hsj] at this
          have h2 : bI 0 j = false := bI_0 j
          rw [h2] at this
          have d2 : decide (j < 32) = true := by simp; omega
          have d3 : decide (j < NW r) = true := by simp; omega
          rw [d2, d3] at this
          cases this
        rw [if_neg e3]
        obtain ⟨z, o, e4, hN⟩ := x_runGate hw hC (w := w) (by omega) (by omega) (vL := v') (c := fun l => bad r (ask l) (f + 1)) (fun k hk => by
          have hop := (hw.2.2.2.2.2.2.1 w k (by omega) (by omega) hk).2
          exact ⟨hz _ hop, fun l => bad_2 hw (fun i hi => ha l i hi) (f + 1) (op r w k + 1) _ (by omega) (by omega)⟩)
        refine ok_o1e e4 ?_
        refine fin _ _ (hN.cong (fun l _ => ?_))
        exact (bad_at hw (site_told.mpr hs') hwi (by omega)).symm
