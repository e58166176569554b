/-! the model: all sets of a question, with a fault and without -/
theorem ok_j3 {α γ δ β : Type} {K : α → γ → δ → Option β} {B : (α → γ → δ → Option β) → Option β} {Q : β → Prop} (P : α → γ → δ → Prop) (hK : ∀ a b c, P a b c → Ok (K a b c) Q) (h : ∀ k : α → γ → δ → Option β, (∀ a b c, P a b c → Ok (k a b c) Q) → Ok (B k) Q) : Ok (jn K B) Q := h K hK
def RM (r : Nat → Int32) (vM vK vP vQ : Vs) : Prop :=
  (vM.1 0 = nI (NI r) ∧ vM.1 1 = nI (NW r - NI r)) ∧
  ((NB r = 0 ∧ vM.1 6 = im1) ∨ (NB r = 1 ∧ vM.1 6 = nI 0 ∧ vM.1 7 = nI 1 ∧ vM.1 5 = nI (bk r 0) ∧ ba r 0 = 0 ∧ bb r 0 = 1)) ∧
  (vK.1 9 = nI (NW r - NI r) ∧ ∀ w, NI r ≤ w → w < NW r → vK.2.1 0 (w - NI r) = nI (kd r w)) ∧
  (NO r = 3 ∧ vP.1 9 = nI 3 ∧ ∀ o, o < 3 → vP.2.1 0 o = nI (ou r o)) ∧
  (vQ.1 8 = nI (NW r - NI r) ∧ vQ.1 9 = nI (NW r - NI r) ∧ ∀ w, NI r ≤ w → w < NW r → vQ.1 (20 + (w - NI r)) = nI (hv r w) ∧ ∀ k, k < hv r w → vQ.2.1 (w - NI r) k = nI (op r w k)) ∧
  2 ≤ NI r ∧ NI r ≤ 3 ∧ NI r + 3 ≤ NW r ∧ NW r ≤ NI r + 6
theorem RM.wires {r : Nat → Int32} {vM vK vP vQ : Vs} (h : RM r vM vK vP vQ) : f_X8_wires vM vK vP vQ = some (nI (NW r)) := by
  obtain ⟨⟨h0, h1⟩, -, -, -, -, -, -, h3, -⟩ := h
  unfold f_X8_wires
  rw [h0, h1, nI_add, show NI r + (NW r - NI r) = NW r by omega]
def SVr (r : Nat → Int32) (ask : Nat → Nat) (p n : Nat) (v : Vs) : Prop := v.1 9 = nI (NW r) ∧ ∀ j, j < n → v.2.1 0 j = nI (sv (bad r ask p j))
theorem SVr.put {r : Nat → Int32} {ask : Nat → Nat} {p n : Nat} {v : Vs} (h : SVr r ask p n v) (x : Int32) : SVr r ask p n (sI v 0 n x) ∧ (sI v 0 n x).2.1 0 n = x := by
  refine ⟨⟨h.1, fun j hj => ?_⟩, ?_⟩
  · rw [z_sI2, z_u2 _ _ (by omega)]
    exact h.2 j hj
  · rw [z_sI2, z_u1 _ _ rfl]
theorem SVr.s {r : Nat → Int32} {ask : Nat → Nat} {p n : Nat} {v : Vs} (h : SVr r ask p n v) (e : v.2.1 0 n = nI (sv (bad r ask p n))) : SVr r ask p (n + 1) v := by
  refine ⟨h.1, fun j hj => ?_⟩
  rcases Nat.lt_or_ge j n with q | q
  · exact h.2 j q
  · have : j = n := by omega
    rw [this]
    exact e
def AQ (r : Nat → Int32) (ask : Nat → Nat) (v : Vs) : Prop := v.1 9 = nI (NI r) ∧ ∀ i, i < NI r → v.2.1 0 i = nI (sv (ask i)) ∧ ask i ≤ 2
theorem sh_01 : ∀ k, k < 2 → ((1 : Int32) <<< (nI k &&& 31)) = nI (sv k) := by decide +kernel
theorem z_rem2 {f : Nat} (h : f < 2147483648) : nI f - nI (f / 2) * (2 : Int32) = nI (f % 2) := by
  have e : (2 : Int32) = nI 2 := rfl
  rw [e, z_mul, z_sub (by omega)]
  congr 1
  omega
theorem gv_at {r : Nat → Int32} (hw : WFc r) {w : Nat} (h1 : NI r ≤ w) (h2 : w < NW r) {c : Nat → Nat} (hc : ∀ j, j < NW r → c j ≤ 2) : f_L_sets (opV (hv r w) (fun j => c (op r w j)) (hv r w)) (nI (kd r w)) = some (nI (sv (gval r w c))) := by
  have hk := hw.2.2.2.2.2.1 w h1 h2
  have ho := hw.2.2.2.2.2.2.1 w
  rw [gval_gv]
  exact m_sets hk.1.2 hk.2.2.1 hk.2.2.2 (fun j hj => hc _ (by have := (ho j h1 h2 hj).2; omega))
theorem v_82n {r : Nat → Int32} (hw : WFc r) {vM vK vP vQ : Vs} (hm : RM r vM vK vP vQ) {w : Nat} (h1 : NI r ≤ w) (h2 : w < NW r) {ask : Nat → Nat} {p : Nat} (hb2 : ∀ j, j < NW r → bad r ask p j ≤ 2) {vN : Vs} (hN : SVr r ask p w vN) {kc ks : Nat} (hkc : kc + 1 ≤ 8) (hks : ks + 4 ≤ 64) {Q : Vs → Prop} {k31 : Vs → Nat → Nat → Option Vs} (hk : ∀ v kc' ks', SVr r ask p w v → v.2.1 0 w = nI (sv (gval r w (bad r ask p))) → kc' = kc + 1 → ks' ≤ ks + 4 → Ok (k31 v kc' ks') Q) : Ok (lp (f_X8_values_n_L82 vM vK vQ (nI w) vN kc ks k31) (fun _ _ => none) FU (nI 0) (opV (hv r w) (fun j => bad r ask p (op r w j)) 0)) Q := by
  obtain ⟨⟨hM0, hM1⟩, -, ⟨hK9, hKw⟩, -, ⟨hQ8, hQ9, hQw⟩, hI2, hI3, hW3, hW6⟩ := hm
  obtain ⟨hq1, hq2⟩ := hQw w h1 h2
  have hg := hw.gate h1 h2
  have hKw := hKw w h1 h2
  have hh4 : hv r w ≤ 4 := hg.2.2.2.2.2.2.2.1
  have hd : nI w - vM.1 0 = nI (w - NI r) := by rw [hM0, z_sub h1]
  have hcl : (nI (w - NI r)).toNatClampNeg = w - NI r := z_cl (by omega)
  have hop := hw.2.2.2.2.2.2.1 w
  refine zl2 (I := fun m x v => ∃ k, x = nI k ∧ v = opV (hv r w) (fun j => bad r ask p (op r w j)) k ∧ k ≤ hv r w ∧ m = hv r w - k) ?_ FU (hv r w) _ _ (by unfold FU; omega) ⟨0, rfl, rfl, by omega, by omega⟩
  rintro m x v self ⟨k, rfl, rfl, hle, rfl⟩ ih
  have e9 := opV_9 (hv r w) (fun j => bad r ask p (op r w j)) k
  unfold f_X8_values_n_L82
  by_cases hb : hv r w ≤ k
  · obtain rfl : k = hv r w := by omega
    rw [e9, z_cl (by omega), ift hb (by omega)]
    simp (disch := omega) only [hd, hcl, hq1, hK9, hKw, hN.1, z_cl]
    refine ok_gd (z_inb (by omega) (by omega)) (ok_gd (decide_eq_true ⟨by omega, by omega⟩) (ok_o1e (gv_at hw h1 h2 hb2) (ok_gd (z_inb (by omega) (by omega)) (ok_bn ?_))))
    have hp := hN.put (nI (sv (gval r w (bad r ask p))))
    exact hk _ _ _ hp.1 hp.2 rfl (by omega)
  · rw [e9, z_cl (by omega), iff_ hb (by omega)]
    have ho := hop k h1 h2 (by omega)
    simp (disch := omega) only [hd, hcl, hq1, hQ8, hQ9, hN.1, z_cl, hq2 k (by omega), hN.2 _ ho.2, e9]
    refine ok_gd (by rw [Bool.and_eq_true]; exact ⟨z_inb (by omega) (by omega), decide_eq_true (by omega)⟩) (ok_gd (z_inb (by omega) (by omega)) (ok_gd (z_inb (by omega) (by omega)) (ok_gd (z_inb (by omega) (by omega)) (ok_bn ?_))))
    rw [z_l1, nI_add]
    exact ih _ _ _ (by omega) ⟨k + 1, rfl, rfl, by omega, rfl⟩
theorem v_n {r : Nat → Int32} (hw : WFc r) {vA vM vK vP vQ : Vs} (hm : RM r vM vK vP vQ) {ask : Nat → Nat} (hA : AQ r ask vA) {p : Nat} (hp : p ≤ 2 * NW r) : Ok (f_X8_values_n vA vM vK vP vQ (fI p)) (SVr r ask p (NW r)) := by
  have hwi := hm.wires
  have hb2 : ∀ j, j < NW r → bad r ask p j ≤ 2 := fun j hj => bad_2 hw (fun i hi => (hA.2 i hi).2) p (j + 1) j (by omega) hj
  obtain ⟨⟨hM0, hM1⟩, -, ⟨hK9, hKw⟩, -, ⟨hQ8, hQ9, hQw⟩, hI2, hI3, hW3, hW6⟩ := id hm
  unfold f_X8_values_n
  rw [hwi, z_o1]
  have hx2 : ¬ (2 : Int32) * nI (NW r) ≤ fI p := by
    rw [z_l2, z_mul]
    rcases Nat.eq_zero_or_pos p with q | q
    · rw [q, fI_0, z_nle' (by omega)]
      exact id
    · rw [fI, if_neg (by omega), z_le (by omega) (by omega)]
      omega
  refine ok_gd (decide_eq_true hx2) ?_
  rw [z_o1]
  refine ok_gd (decide_eq_true ⟨nI_pos (by omega), by rw [z_cl (by omega)]; omega, by omega, by rw [z_cl (by omega)]; omega⟩) (ok_bn ?_)
  rw [z_cl (by omega)]
  refine zl4 (I := fun m x v kc ks => ∃ w, x = nI w ∧ w ≤ NW r ∧ SVr r ask p w v ∧ kc ≤ 1 + (w - NI r) ∧ ks ≤ NW r + 4 * (w - NI r) ∧ m = NW r - w) ?_ FU (NW r) _ _ _ _ (by unfold FU; omega) ⟨0, rfl, by omega, ⟨rfl, fun j hj => by omega⟩, by omega, by omega, by omega⟩
  rintro m x v kc ks self ⟨w, rfl, hle, hvv, hkc, hks, rfl⟩ ih
  unfold f_X8_values_n_L32
  refine ok_gd (decide_eq_true ⟨by omega, by omega⟩) ?_
  rw [hwi, z_o1]
  by_cases hb : NW r ≤ w
  · rw [ift hb (by omega)]
    obtain rfl : w = NW r := by omega
    exact ok_gd (decide_eq_true ⟨by omega, by omega⟩) (ok_some hvv)
  · rw [iff_ hb (by omega)]
    refine ok_j3 (fun v' kc' ks' => SVr r ask p w v' ∧ v'.2.1 0 w = nI (sv (if w < NI r then ask w else gval r w (bad r ask p))) ∧ kc' ≤ 1 + (w + 1 - NI r) ∧ ks' ≤ NW r + 4 * (w + 1 - NI r)) (fun v' kc' ks' hv' => ?_) (fun k31 hk31 => ?_)
    · obtain ⟨s1, s2, s3, s4⟩ := hv'
      refine ok_j1 (fun v'' => SVr r ask p (w + 1) v'') (fun v'' hv'' => ?_) (fun k34 hk34 => ?_)
      · rw [z_l1, nI_add]
        exact ih _ _ _ _ _ (by omega) ⟨w + 1, rfl, by omega, hv'', s3, s4, rfl⟩
      · rcases Nat.eq_zero_or_pos p with q | q
        · subst q
          rw [if_pos (show fI 0 < 0 by decide)]
          refine hk34 _ (s1.s ?_)
          rw [s2]
          by_cases hi : w < NI r
          · rw [if_pos hi, bad_in rfl hi]
          · rw [if_neg hi, bad_at hw rfl hi (by omega)]
        · obtain ⟨f, rfl⟩ : ∃ f, p = f + 1 := ⟨p - 1, by omega⟩
          rw [fI_s, if_neg (nI_pos (by omega))]
          refine ok_gd (by decide) ?_
          have e2 : nI f / (2 : Int32) = nI (f / 2) := by rw [z_l2, z_div (by omega) (by omega)]
          have ht : told r ask (f + 1) w = if f / 2 = w then some (f % 2) else none := by
            unfold told
            rw [if_neg (by omega), if_pos (by omega)]
            rfl
          rw [e2]
          by_cases hf : f / 2 = w
          · rw [iet hf]
            rw [if_pos hf] at ht
            refine ok_gd (by decide) ?_
            rw [s1.1, z_cl (by omega), z_cl (by omega), z_rem2 (by omega), sh_01 _ (by omega)]
            refine ok_gd (z_inb (by omega) (by omega)) (ok_bn ?_)
            have hp2 := s1.put (nI (sv (f % 2)))
            exact hk34 _ (hp2.1.s (by rw [hp2.2, bad_some ht]))
          · rw [ief hf (by omega) (by omega)]
            rw [if_neg hf] at ht
            refine hk34 _ (s1.s ?_)
            rw [s2]
            by_cases hi : w < NI r
            · rw [if_pos hi, bad_in ht hi]
            · rw [if_neg hi, bad_at hw ht hi (by omega)]
    · by_cases hi : w < NI r
      · rw [hM0, iff_ (by omega) (by omega)]
        rw [hA.1, z_cl (by omega), z_cl (by omega), (hA.2 w hi).1, hvv.1, z_cl (by omega)]
        refine ok_gd (z_inb (by omega) (by omega)) (ok_gd (z_inb (by omega) (by omega)) (ok_bn ?_))
        have hp2 := hvv.put (nI (sv (ask w)))
        exact hk31 _ _ _ ⟨hp2.1, by rw [hp2.2, if_pos hi], by omega, by omega⟩
      · have h1 : NI r ≤ w := by omega
        obtain ⟨hq1, hq2⟩ := hQw w h1 (by omega)
        have hg := hw.gate h1 (show w < NW r by omega)
        have hh4 : hv r w ≤ 4 := hg.2.2.2.2.2.2.2.1
        have h82 := v_82n hw hm h1 (show w < NW r by omega) hb2 hvv (kc := kc) (ks := ks) (by omega) (by omega) (k31 := k31) (fun v' kc' ks' a1 a2 a3 a4 => hk31 _ _ _ ⟨a1, by rw [a2, if_neg hi], by omega, by omega⟩)
        rw [hM0, ift h1 (by omega), z_sub h1, hQ8, hQ9]
        simp (disch := omega) only [z_cl, hq1]
        refine ok_gd (by rw [Bool.and_eq_true]; exact ⟨z_inb (by omega) (by omega), decide_eq_true (by omega)⟩) ?_
        refine ok_gd (decide_eq_true ⟨nI_pos (by omega), by omega, by omega, by omega⟩) (ok_bn ?_)
        exact h82
theorem v_82m {r : Nat → Int32} (hw : WFc r) {vM vK vP vQ : Vs} (hm : RM r vM vK vP vQ) {w : Nat} (h1 : NI r ≤ w) (h2 : w < NW r) {ask : Nat → Nat} {p : Nat} (hb2 : ∀ j, j < NW r → bad r ask p j ≤ 2) {vN : Vs} (hN : SVr r ask p w vN) {kc ks : Nat} (hkc : kc + 1 ≤ 20) (hks : ks + 4 ≤ 128) {Q : Vs → Prop} {k31 : Vs → Nat → Nat → Option Vs} (hk : ∀ v kc' ks', SVr r ask p w v → v.2.1 0 w = nI (sv (gval r w (bad r ask p))) → kc' = kc + 1 → ks' ≤ ks + 4 → Ok (k31 v kc' ks') Q) : Ok (lp (f_X8_values_m_L82 vM vK vQ (nI w) vN kc ks k31) (fun _ _ => none) FU (nI 0) (opV (hv r w) (fun j => bad r ask p (op r w j)) 0)) Q := by
  obtain ⟨⟨hM0, hM1⟩, -, ⟨hK9, hKw⟩, -, ⟨hQ8, hQ9, hQw⟩, hI2, hI3, hW3, hW6⟩ := hm
  obtain ⟨hq1, hq2⟩ := hQw w h1 h2
  have hg := hw.gate h1 h2
  have hKw := hKw w h1 h2
  have hh4 : hv r w ≤ 4 := hg.2.2.2.2.2.2.2.1
  have hd : nI w - vM.1 0 = nI (w - NI r) := by rw [hM0, z_sub h1]
  have hcl : (nI (w - NI r)).toNatClampNeg = w - NI r := z_cl (by omega)
  have hop := hw.2.2.2.2.2.2.1 w
  refine zl2 (I := fun m x v => ∃ k, x = nI k ∧ v = opV (hv r w) (fun j => bad r ask p (op r w j)) k ∧ k ≤ hv r w ∧ m = hv r w - k) ?_ FU (hv r w) _ _ (by unfold FU; omega) ⟨0, rfl, rfl, by omega, by omega⟩
  rintro m x v self ⟨k, rfl, rfl, hle, rfl⟩ ih
  have e9 := opV_9 (hv r w) (fun j => bad r ask p (op r w j)) k
  unfold f_X8_values_m_L82
  by_cases hb : hv r w ≤ k
  · obtain rfl : k = hv r w := by omega
    rw [e9, z_cl (by omega), ift hb (by omega)]
    simp (disch := omega) only [hd, hcl, hq1, hK9, hKw, hN.1, z_cl]
    refine ok_gd (z_inb (by omega) (by omega)) (ok_gd (decide_eq_true ⟨by omega, by omega⟩) (ok_o1e (gv_at hw h1 h2 hb2) (ok_gd (z_inb (by omega) (by omega)) (ok_bn ?_))))
    have hp := hN.put (nI (sv (gval r w (bad r ask p))))
    exact hk _ _ _ hp.1 hp.2 rfl (by omega)
  · rw [e9, z_cl (by omega), iff_ hb (by omega)]
    have ho := hop k h1 h2 (by omega)
    simp (disch := omega) only [hd, hcl, hq1, hQ8, hQ9, hN.1, z_cl, hq2 k (by omega), hN.2 _ ho.2, e9]
    refine ok_gd (by rw [Bool.and_eq_true]; exact ⟨z_inb (by omega) (by omega), decide_eq_true (by omega)⟩) (ok_gd (z_inb (by omega) (by omega)) (ok_gd (z_inb (by omega) (by omega)) (ok_gd (z_inb (by omega) (by omega)) (ok_bn ?_))))
    rw [z_l1, nI_add]
    exact ih _ _ _ (by omega) ⟨k + 1, rfl, rfl, by omega, rfl⟩
theorem v_m {r : Nat → Int32} (hw : WFc r) {vA vM vK vP vQ : Vs} (hm : RM r vM vK vP vQ) {ask : Nat → Nat} (hA : AQ r ask vA) {p : Nat} (hp : p ≤ 2 * NW r) : Ok (f_X8_values_m vA vM vK vP vQ (fI p)) (SVr r ask p (NW r)) := by
  have hwi := hm.wires
  have hb2 : ∀ j, j < NW r → bad r ask p j ≤ 2 := fun j hj => bad_2 hw (fun i hi => (hA.2 i hi).2) p (j + 1) j (by omega) hj
  obtain ⟨⟨hM0, hM1⟩, -, ⟨hK9, hKw⟩, -, ⟨hQ8, hQ9, hQw⟩, hI2, hI3, hW3, hW6⟩ := id hm
  unfold f_X8_values_m
  rw [hwi, z_o1]
  have hx2 : ¬ (2 : Int32) * nI (NW r) ≤ fI p := by
    rw [z_l2, z_mul]
    rcases Nat.eq_zero_or_pos p with q | q
    · rw [q, fI_0, z_nle' (by omega)]
      exact id
    · rw [fI, if_neg (by omega), z_le (by omega) (by omega)]
      omega
  refine ok_gd (decide_eq_true hx2) ?_
  rw [z_o1]
  refine ok_gd (decide_eq_true ⟨nI_pos (by omega), by rw [z_cl (by omega)]; omega, by omega, by rw [z_cl (by omega)]; omega⟩) (ok_bn ?_)
  rw [z_cl (by omega)]
  refine zl4 (I := fun m x v kc ks => ∃ w, x = nI w ∧ w ≤ NW r ∧ SVr r ask p w v ∧ kc ≤ 1 + (w - NI r) ∧ ks ≤ NW r + 4 * (w - NI r) ∧ m = NW r - w) ?_ FU (NW r) _ _ _ _ (by unfold FU; omega) ⟨0, rfl, by omega, ⟨rfl, fun j hj => by omega⟩, by omega, by omega, by omega⟩
  rintro m x v kc ks self ⟨w, rfl, hle, hvv, hkc, hks, rfl⟩ ih
  unfold f_X8_values_m_L32
  refine ok_gd (decide_eq_true ⟨by omega, by omega⟩) ?_
  rw [hwi, z_o1]
  by_cases hb : NW r ≤ w
  · rw [ift hb (by omega)]
    obtain rfl : w = NW r := by omega
    exact ok_gd (decide_eq_true ⟨by omega, by omega⟩) (ok_some hvv)
  · rw [iff_ hb (by omega)]
    refine ok_j3 (fun v' kc' ks' => SVr r ask p w v' ∧ v'.2.1 0 w = nI (sv (if w < NI r then ask w else gval r w (bad r ask p))) ∧ kc' ≤ 1 + (w + 1 - NI r) ∧ ks' ≤ NW r + 4 * (w + 1 - NI r)) (fun v' kc' ks' hv' => ?_) (fun k31 hk31 => ?_)
    · obtain ⟨s1, s2, s3, s4⟩ := hv'
      refine ok_j1 (fun v'' => SVr r ask p (w + 1) v'') (fun v'' hv'' => ?_) (fun k34 hk34 => ?_)
      · rw [z_l1, nI_add]
        exact ih _ _ _ _ _ (by omega) ⟨w + 1, rfl, by omega, hv'', s3, s4, rfl⟩
      · rcases Nat.eq_zero_or_pos p with q | q
        · subst q
          rw [if_pos (show fI 0 < 0 by decide)]
          refine hk34 _ (s1.s ?_)
          rw [s2]
          by_cases hi : w < NI r
          · rw [if_pos hi, bad_in rfl hi]
          · rw [if_neg hi, bad_at hw rfl hi (by omega)]
        · obtain ⟨f, rfl⟩ : ∃ f, p = f + 1 := ⟨p - 1, by omega⟩
          rw [fI_s, if_neg (nI_pos (by omega))]
          refine ok_gd (by decide) ?_
          have e2 : nI f / (2 : Int32) = nI (f / 2) := by rw [z_l2, z_div (by omega) (by omega)]
          have ht : told r ask (f + 1) w = if f / 2 = w then some (f % 2) else none := by
            unfold told
            rw [if_neg (by omega), if_pos (by omega)]
            rfl
          rw [e2]
          by_cases hf : f / 2 = w
          · rw [iet hf]
            rw [if_pos hf] at ht
            refine ok_gd (by decide) ?_
            rw [s1.1, z_cl (by omega), z_cl (by omega), z_rem2 (by omega), sh_01 _ (by omega)]
            refine ok_gd (z_inb (by omega) (by omega)) (ok_bn ?_)
            have hp2 := s1.put (nI (sv (f % 2)))
            exact hk34 _ (hp2.1.s (by rw [hp2.2, bad_some ht]))
          · rw [ief hf (by omega) (by omega)]
            rw [if_neg hf] at ht
            refine hk34 _ (s1.s ?_)
            rw [s2]
            by_cases hi : w < NI r
            · rw [if_pos hi, bad_in ht hi]
            · rw [if_neg hi, bad_at hw ht hi (by omega)]
    · by_cases hi : w < NI r
      · rw [hM0, iff_ (by omega) (by omega)]
        rw [hA.1, z_cl (by omega), z_cl (by omega), (hA.2 w hi).1, hvv.1, z_cl (by omega)]
        refine ok_gd (z_inb (by omega) (by omega)) (ok_gd (z_inb (by omega) (by omega)) (ok_bn ?_))
        have hp2 := hvv.put (nI (sv (ask w)))
        exact hk31 _ _ _ ⟨hp2.1, by rw [hp2.2, if_pos hi], by omega, by omega⟩
      · have h1 : NI r ≤ w := by omega
        obtain ⟨hq1, hq2⟩ := hQw w h1 (by omega)
        have hg := hw.gate h1 (show w < NW r by omega)
        have hh4 : hv r w ≤ 4 := hg.2.2.2.2.2.2.2.1
        have h82 := v_82m hw hm h1 (show w < NW r by omega) hb2 hvv (kc := kc) (ks := ks) (by omega) (by omega) (k31 := k31) (fun v' kc' ks' a1 a2 a3 a4 => hk31 _ _ _ ⟨a1, by rw [a2, if_neg hi], by omega, by omega⟩)
        rw [hM0, ift h1 (by omega), z_sub h1, hQ8, hQ9]
        simp (disch := omega) only [z_cl, hq1]
        refine ok_gd (by rw [Bool.and_eq_true]; exact ⟨z_inb (by omega) (by omega), decide_eq_true (by omega)⟩) ?_
        refine ok_gd (decide_eq_true ⟨nI_pos (by omega), by omega, by omega, by omega⟩) (ok_bn ?_)
        exact h82
theorem v_82b {r : Nat → Int32} (hw : WFc r) {vM vK vP vQ : Vs} (hm : RM r vM vK vP vQ) {w : Nat} (h1 : NI r ≤ w) (h2 : w < NW r) {ask : Nat → Nat} {p : Nat} (hb2 : ∀ j, j < NW r → bad r ask p j ≤ 2) {vN : Vs} (hN : SVr r ask p w vN) {kc ks : Nat} (hkc : kc + 1 ≤ 20) (hks : ks + 4 ≤ 128) {Q : Vs → Prop} {k31 : Vs → Nat → Nat → Option Vs} (hk : ∀ v kc' ks', SVr r ask p w v → v.2.1 0 w = nI (sv (gval r w (bad r ask p))) → kc' = kc + 1 → ks' ≤ ks + 4 → Ok (k31 v kc' ks') Q) : Ok (lp (f_X8_values_b_L82 vM vK vQ (nI w) vN kc ks k31) (fun _ _ => none) FU (nI 0) (opV (hv r w) (fun j => bad r ask p (op r w j)) 0)) Q := by
  obtain ⟨⟨hM0, hM1⟩, -, ⟨hK9, hKw⟩, -, ⟨hQ8, hQ9, hQw⟩, hI2, hI3, hW3, hW6⟩ := hm
  obtain ⟨hq1, hq2⟩ := hQw w h1 h2
  have hg := hw.gate h1 h2
  have hKw := hKw w h1 h2
  have hh4 : hv r w ≤ 4 := hg.2.2.2.2.2.2.2.1
  have hd : nI w - vM.1 0 = nI (w - NI r) := by rw [hM0, z_sub h1]
  have hcl : (nI (w - NI r)).toNatClampNeg = w - NI r := z_cl (by omega)
  have hop := hw.2.2.2.2.2.2.1 w
  refine zl2 (I := fun m x v => ∃ k, x = nI k ∧ v = opV (hv r w) (fun j => bad r ask p (op r w j)) k ∧ k ≤ hv r w ∧ m = hv r w - k) ?_ FU (hv r w) _ _ (by unfold FU; omega) ⟨0, rfl, rfl, by omega, by omega⟩
  rintro m x v self ⟨k, rfl, rfl, hle, rfl⟩ ih
  have e9 := opV_9 (hv r w) (fun j => bad r ask p (op r w j)) k
  unfold f_X8_values_b_L82
  by_cases hb : hv r w ≤ k
  · obtain rfl : k = hv r w := by omega
    rw [e9, z_cl (by omega), ift hb (by omega)]
    simp (disch := omega) only [hd, hcl, hq1, hK9, hKw, hN.1, z_cl]
    refine ok_gd (z_inb (by omega) (by omega)) (ok_gd (decide_eq_true ⟨by omega, by omega⟩) (ok_o1e (gv_at hw h1 h2 hb2) (ok_gd (z_inb (by omega) (by omega)) (ok_bn ?_))))
    have hp := hN.put (nI (sv (gval r w (bad r ask p))))
    exact hk _ _ _ hp.1 hp.2 rfl (by omega)
  · rw [e9, z_cl (by omega), iff_ hb (by omega)]
    have ho := hop k h1 h2 (by omega)
    simp (disch := omega) only [hd, hcl, hq1, hQ8, hQ9, hN.1, z_cl, hq2 k (by omega), hN.2 _ ho.2, e9]
    refine ok_gd (by rw [Bool.and_eq_true]; exact ⟨z_inb (by omega) (by omega), decide_eq_true (by omega)⟩) (ok_gd (z_inb (by omega) (by omega)) (ok_gd (z_inb (by omega) (by omega)) (ok_gd (z_inb (by omega) (by omega)) (ok_bn ?_))))
    rw [z_l1, nI_add]
    exact ih _ _ _ (by omega) ⟨k + 1, rfl, rfl, by omega, rfl⟩
theorem fm_01 : ∀ k, k < 2 → few k ≤ 2 ∧ 2 ≤ mst k := by decide
theorem told_br {r : Nat → Int32} {ask : Nat → Nat} (hba : ba r 0 = 0) (hbb : bb r 0 = 1) (w : Nat) : told r ask (2 * NW r + 1) w = if w = 0 ∨ w = 1 then some (dc (good r ask 0) (good r ask 1) (if bk r 0 = 0 then 0 else 1)) else none := by
  unfold told
  rw [if_neg (by omega), if_neg (by omega), show 2 * NW r + 1 - 1 - 2 * NW r = 0 by omega, hba, hbb]
theorem gv_br {k : Nat} (hk : k ≤ 1) (c : Nat → Nat) : gv k 2 c = dc (c 0) (c 1) (if k = 0 then 0 else 1) := by
  have h : k = 0 ∨ k = 1 := by omega
  rcases h with rfl | rfl <;> rfl
theorem v_b {r : Nat → Int32} (hw : WFc r) {vA vM vK vP vQ : Vs} (hm : RM r vM vK vP vQ) {ask : Nat → Nat} (hA : AQ r ask vA) (hB : NB r = 1) : Ok (f_X8_values_b vA vM vK vP vQ (fI (2 * NW r + 1))) (SVr r ask (2 * NW r + 1) (NW r)) := by
  have hwi := hm.wires
  have hb2 : ∀ j, j < NW r → bad r ask (2 * NW r + 1) j ≤ 2 := fun j hj => bad_2 hw (fun i hi => (hA.2 i hi).2) _ (j + 1) j (by omega) hj
  have hg2 : ∀ j, j < NW r → good r ask j ≤ 2 := fun j hj => good_2 hw (fun i hi => (hA.2 i hi).2) (j + 1) j (by omega) hj
  have hn := v_n hw hm hA (p := 0) (by omega)
  have hbk := (hw.2.2.2.2.2.2.2.2 0 (by omega)).1.2
  obtain ⟨⟨hM0, hM1⟩, hbr, ⟨hK9, hKw⟩, -, ⟨hQ8, hQ9, hQw⟩, hI2, hI3, hW3, hW6⟩ := id hm
  obtain ⟨hM6, hM7, hM5, hba, hbb⟩ : vM.1 6 = nI 0 ∧ vM.1 7 = nI 1 ∧ vM.1 5 = nI (bk r 0) ∧ ba r 0 = 0 ∧ bb r 0 = 1 := by
    rcases hbr with h | h
    · omega
    · exact h.2
  have ht := told_br (ask := ask) hba hbb
  unfold f_X8_values_b
  rw [hwi, z_o1, fI_s]
  refine ok_gd (decide_eq_true (by rw [z_l2, z_mul, z_le (by omega) (by omega)]; omega)) (ok_gd (by decide) ?_)
  refine ok_o1 hn (fun vN17 h17 => ?_)
  have h17 : SVr r ask 0 (NW r) vN17 := h17
  rw [SVr, bad_0] at h17
  refine ok_gd (by decide) ?_
  rw [z_o1]
  refine ok_gd (decide_eq_true ⟨nI_pos (by omega), by rw [z_cl (by omega)]; omega, by omega, by rw [z_cl (by omega)]; omega⟩) (ok_bn ?_)
  rw [z_cl (by omega)]
  refine zl4 (I := fun m x v kc ks => ∃ w e, x = nI w ∧ w ≤ NW r ∧ SVr r ask (2 * NW r + 1) w v ∧ (e ≤ w ∧ e ≤ 2) ∧ kc ≤ 9 + (w - NI r) + e ∧ ks ≤ 64 + NW r + 4 * (w - NI r) + 2 * e ∧ m = NW r - w) ?_ FU (NW r) _ _ _ _ (by unfold FU; omega) ⟨0, 0, rfl, by omega, ⟨rfl, fun j hj => by omega⟩, by omega, by omega, by omega, by omega⟩
  rintro m x v kc ks self ⟨w, e, rfl, hle, hvv, ⟨he, he2⟩, hkc, hks, rfl⟩ ih
  unfold f_X8_values_b_L32
  refine ok_gd (decide_eq_true ⟨by omega, by omega⟩) ?_
  rw [hwi, z_o1]
  by_cases hb : NW r ≤ w
  · rw [ift hb (by omega)]
    obtain rfl : w = NW r := by omega
    exact ok_gd (decide_eq_true ⟨by omega, by omega⟩) (ok_some hvv)
  · rw [iff_ hb (by omega)]
    refine ok_j3 (fun v' kc' ks' => SVr r ask (2 * NW r + 1) w v' ∧ v'.2.1 0 w = nI (sv (if w < NI r then ask w else gval r w (bad r ask (2 * NW r + 1)))) ∧ kc' ≤ 9 + (w + 1 - NI r) + e ∧ ks' ≤ 64 + NW r + 4 * (w + 1 - NI r) + 2 * e) (fun v' kc' ks' hv' => ?_) (fun k31 hk31 => ?_)
    · obtain ⟨s1, s2, s3, s4⟩ := hv'
      refine ok_j3 (fun v'' kc'' ks'' => SVr r ask (2 * NW r + 1) (w + 1) v'' ∧ ∃ e', (e' ≤ w + 1 ∧ e' ≤ 2) ∧ kc'' ≤ 9 + (w + 1 - NI r) + e' ∧ ks'' ≤ 64 + NW r + 4 * (w + 1 - NI r) + 2 * e') (fun v'' kc'' ks'' hv'' => ?_) (fun k34 hk34 => ?_)
      · obtain ⟨a1, e', a2, a3, a4⟩ := hv''
        rw [z_l1, nI_add]
        exact ih _ _ _ _ _ (by omega) ⟨w + 1, e', rfl, by omega, a1, a2, a3, a4, rfl⟩
      · refine ok_j0 (w = 0 ∨ w = 1) (fun hw01 => ?_) (fun k43 hk43 => ?_)
        · have h2 : (2 : Int32).toNatClampNeg = 2 := by decide
          have h01 : e + 1 ≤ 2 := by omega
          refine ok_gd (decide_eq_true ⟨by decide, by decide, by omega, by rw [h2]; omega⟩) (ok_bn ?_)
          rw [hM6, hM7, hM5, h17.1]
          refine ok_gd (z_inb (by rw [z_cl (by omega)]; omega) (by rw [z_cl (by omega)]; omega)) (ok_gd (by decide) (ok_bn ?_))
          refine ok_gd (z_inb (by rw [z_cl (by omega)]; omega) (by rw [z_cl (by omega)]; omega)) (ok_gd (by show inb 1 ((aV (2 : Int32) (fun _ => 0)).1 9).toNatClampNeg = true; decide) (ok_bn ?_))
          refine ok_gd (decide_eq_true ⟨by omega, by rw [h2]; omega⟩) ?_
          have hop : sI (sI (aV (2 : Int32) (fun _ => 0)) 0 (0 : Int32).toNatClampNeg (vN17.2.1 0 (nI 0).toNatClampNeg)) 0 (1 : Int32).toNatClampNeg (vN17.2.1 0 (nI 1).toNatClampNeg) = opV 2 (good r ask) 2 := by
            rw [z_cl (show 0 < 2147483648 by omega), z_cl (show 1 < 2147483648 by omega), h17.2 0 (by omega), h17.2 1 (by omega)]
            rfl
          rw [hop]
          have hfm := fm_01 (bk r 0) (by omega)
          have hst := m_sets (k := bk r 0) (m := 2) (c := good r ask) (by omega) hfm.1 hfm.2 (fun j hj => hg2 j (by omega))
          refine ok_o1e hst ?_
          rw [s1.1, z_cl (by omega), z_cl (by omega)]
          refine ok_gd (z_inb (by omega) (by omega)) (ok_bn ?_)
          have hp2 := s1.put (nI (sv (gv (bk r 0) 2 (good r ask))))
          refine hk34 _ _ _ ⟨hp2.1.s ?_, e + 1, by omega, by omega, by rw [h2]; omega⟩
          have ht := ht w
          rw [if_pos hw01] at ht
          rw [hp2.2, bad_some ht, gv_br hbk]
        · have hno : ¬ (w = 0 ∨ w = 1) → Ok (k34 v' kc' ks') (SVr r ask (2 * NW r + 1) (NW r)) := fun hw01 => by
            have ht := ht w
            rw [if_neg hw01] at ht
            refine hk34 _ _ _ ⟨s1.s ?_, e, by omega, s3, s4⟩
            rw [s2]
            by_cases hi : w < NI r
            · rw [if_pos hi, bad_in ht hi]
            · rw [if_neg hi, bad_at hw ht hi (by omega)]
          rw [hM6, hM7]
          by_cases q0 : w = 0
          · rw [iet q0]
            exact hk43 (Or.inl q0)
          · rw [ief q0 (by omega) (by omega)]
            by_cases q1 : w = 1
            · rw [iet q1]
              exact hk43 (Or.inr q1)
            · rw [ief q1 (by omega) (by omega)]
              exact hno (by omega)
    · by_cases hi : w < NI r
      · rw [hM0, iff_ (by omega) (by omega)]
        rw [hA.1, z_cl (by omega), z_cl (by omega), (hA.2 w hi).1, hvv.1, z_cl (by omega)]
        refine ok_gd (z_inb (by omega) (by omega)) (ok_gd (z_inb (by omega) (by omega)) (ok_bn ?_))
        have hp2 := hvv.put (nI (sv (ask w)))
        exact hk31 _ _ _ ⟨hp2.1, by rw [hp2.2, if_pos hi], by omega, by omega⟩
      · have h1 : NI r ≤ w := by omega
        obtain ⟨hq1, hq2⟩ := hQw w h1 (by omega)
        have hg := hw.gate h1 (show w < NW r by omega)
        have hh4 : hv r w ≤ 4 := hg.2.2.2.2.2.2.2.1
        have h82 := v_82b hw hm h1 (show w < NW r by omega) hb2 hvv (kc := kc) (ks := ks) (by omega) (by omega) (k31 := k31) (fun v' kc' ks' a1 a2 a3 a4 => hk31 _ _ _ ⟨a1, by rw [a2, if_neg hi], by omega, by omega⟩)
        rw [hM0, ift h1 (by omega), z_sub h1, hQ8, hQ9]
        simp (disch := omega) only [z_cl, hq1]
        refine ok_gd (by rw [Bool.and_eq_true]; exact ⟨z_inb (by omega) (by omega), decide_eq_true (by omega)⟩) ?_
        refine ok_gd (decide_eq_true ⟨nI_pos (by omega), by omega, by omega, by omega⟩) (ok_bn ?_)
        exact h82
theorem m_values {r : Nat → Int32} (hw : WFc r) {vA vM vK vP vQ : Vs} (hm : RM r vM vK vP vQ) {ask : Nat → Nat} (hA : AQ r ask vA) {p : Nat} (hp : p ≤ NF r) : Ok (f_X8_values vA vM vK vP vQ (fI p)) (SVr r ask p (NW r)) := by
  obtain ⟨⟨hM0, hM1⟩, hbr, -, -, -, hI2, hI3, hW3, hW6⟩ := id hm
  have hnf : NF r = 2 * NW r + NB r := rfl
  have hB : NB r ≤ 1 := by rcases hbr with h | h <;> omega
  unfold f_X8_values
  rw [hM0, hM1, nI_add, show NI r + (NW r - NI r) = NW r by omega, z_l2, z_mul]
  by_cases c : p ≤ 2 * NW r
  · have hx : fI p < nI (2 * NW r) := by
      rcases Nat.eq_zero_or_pos p with q | q
      · rw [q, fI_0, z_nle (by omega)]
        trivial
      · rw [fI, if_neg (by omega), z_lt (by omega) (by omega)]
        omega
    rw [if_pos hx]
    exact v_m hw hm hA c
  · have e : p = 2 * NW r + 1 := by omega
    rw [e, fI_s, ilf (by omega) (by omega), ← fI_s]
    exact v_b hw hm hA (by omega)
