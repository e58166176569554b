/-! changes: rows of the reference, copies of the class -/
def KR (n : Nat) (v v' : Vs) : Prop := v'.1 = v.1 ∧ (∀ j, j ≠ 1 → v'.2.1 j = v.2.1 j) ∧ ∀ m, m < 9 → m ≠ n → ∀ k, k < 440 → v'.2.1 1 (440 * m + k) = v.2.1 1 (440 * m + k)
theorem KR.rf (n : Nat) (v : Vs) : KR n v v := ⟨rfl, fun _ _ => rfl, fun _ _ _ _ _ => rfl⟩
theorem KR.tr {n : Nat} {a b c : Vs} (h : KR n a b) (h2 : KR n b c) : KR n a c := ⟨h2.1.trans h.1, fun j hj => (h2.2.1 j hj).trans (h.2.1 j hj), fun m hm hne k hk => (h2.2.2 m hm hne k hk).trans (h.2.2 m hm hne k hk)⟩
-- rows that tell the same circuit
theorem lev_cong {r s : Nat → Int32} (hw : WFc r) (h0 : s 0 = r 0) (h : ∀ k, 32 ≤ k → k < 152 → s k = r k) : ∀ n w, w < n → w < NW r → lev s w = lev r w
  | 0, w, hn, _ => by omega
  | n + 1, w, hn, h2 => by
    have hnf := hw.nf
    have e0 : NI s = NI r := by show nn (s 0) = nn (r 0); rw [h0]
    by_cases h1 : w < NI r
    · rw [lev_in h1, lev_in (by rw [e0]; exact h1)]
    · obtain ⟨h24, g1, g2, g3, g4, g5, g6, g7, g8⟩ := hw.gate (w := w) (by omega) h2
      have eh : hv s w = hv r w := by show nn (s (32 + w)) = nn (r (32 + w)); rw [h _ (by omega) (by omega)]
      have eo : ∀ k, k < hv r w → op s w k = op r w k := fun k hk => by show nn (s (56 + 4 * w + k)) = nn (r (56 + 4 * w + k)); rw [h _ (by omega) (by omega)]
      rw [lev_at hw h1 h2]
      show ev (levF s) w = _
      rw [ev_at, levF, if_neg (by rw [e0]; exact h1), eh]
      refine mxf_cong _ (fun k hk => ?_)
      have ho := (g8 k hk).2
      rw [eo k hk, evs_ev _ ho]
      have := lev_cong hw h0 h n (op r w k) (by omega) (by omega)
      show lev s (op r w k) + 1 = _
      rw [this]
theorem bel_cong {r s : Nat → Int32} (hw : WFc r) (h0 : s 0 = r 0) (h : ∀ k, 32 ≤ k → k < 152 → s k = r k) : ∀ n w, w < n → w < NW r → bel s w = bel r w
  | 0, w, hn, _ => by omega
  | n + 1, w, hn, h2 => by
    have hnf := hw.nf
    have e0 : NI s = NI r := by show nn (s 0) = nn (r 0); rw [h0]
    by_cases h1 : w < NI r
    · rw [bel_in h1, bel_in (by rw [e0]; exact h1)]
    · obtain ⟨h24, g1, g2, g3, g4, g5, g6, g7, g8⟩ := hw.gate (w := w) (by omega) h2
      have eh : hv s w = hv r w := by show nn (s (32 + w)) = nn (r (32 + w)); rw [h _ (by omega) (by omega)]
      have eo : ∀ k, k < hv r w → op s w k = op r w k := fun k hk => by show nn (s (56 + 4 * w + k)) = nn (r (56 + 4 * w + k)); rw [h _ (by omega) (by omega)]
      rw [bel_at hw h1 h2]
      show ev (belF s) w = _
      rw [ev_at, belF, if_neg (by rw [e0]; exact h1), eh]
      refine orf_cong _ (fun k hk => ?_)
      have ho := (g8 k hk).2
      rw [eo k hk, evs_ev _ ho]
      have := bel_cong hw h0 h n (op r w k) (by omega) (by omega)
      show bel s (op r w k) ||| _ = _
      rw [this]
theorem opc_cong {r s : Nat → Int32} {w g : Nat} : ∀ n, (∀ k, k < n → op s g k = op r g k) → opc s w g n = opc r w g n
  | 0, _ => rfl
  | n + 1, h => by
    show opc s w g n + _ = opc r w g n + _
    rw [opc_cong n (fun k hk => h k (by omega)), h n (by omega)]
theorem use_cong {r s : Nat → Int32} (hw : WFc r) (h0 : s 0 = r 0) (h : ∀ k, 32 ≤ k → k < 152 → s k = r k) (w : Nat) : ∀ n, n ≤ NW r → useN s w n = useN r w n
  | 0, _ => rfl
  | n + 1, hn => by
    have hnf := hw.nf
    have e0 : NI s = NI r := by show nn (s 0) = nn (r 0); rw [h0]
    show useN s w n + _ = useN r w n + _
    rw [use_cong hw h0 h w n (by omega), e0]
    by_cases h1 : n < NI r
    · rw [if_pos h1, if_pos h1]
    · rw [if_neg h1, if_neg h1]
      obtain ⟨h24, g1, g2, g3, g4, g5, g6, g7, g8⟩ := hw.gate (w := n) (by omega) (by omega)
      have eh : hv s n = hv r n := by show nn (s (32 + n)) = nn (r (32 + n)); rw [h _ (by omega) (by omega)]
      rw [eh, opc_cong _ (fun k hk => by show nn (s (56 + 4 * n + k)) = nn (r (56 + 4 * n + k)); rw [h _ (by omega) (by omega)])]
/-- a row that agrees on all but the tests tells the same circuit -/
theorem WFc.of {r s : Nat → Int32} (hw : WFc r) (h : ∀ k, k < 182 → k ≠ 4 → s k = r k) : WFc s := by
  have hn := hw.nf
  have e0 : NI s = NI r := by show nn (s 0) = nn (r 0); rw [h 0 (by omega) (by omega)]
  have e1 : NW s = NW r := by show nn (s 1) = nn (r 1); rw [h 1 (by omega) (by omega)]
  have e2 : NO s = NO r := by show nn (s 2) = nn (r 2); rw [h 2 (by omega) (by omega)]
  have e3 : NB s = NB r := by show nn (s 3) = nn (r 3); rw [h 3 (by omega) (by omega)]
  obtain ⟨⟨a1, a2⟩, ⟨b1, b2⟩, ⟨c1, c2⟩, ⟨d1, d2⟩, hi, hg, ho, hu, hb⟩ := hw
  have ek : ∀ w, w < 24 → s (8 + w) = r (8 + w) ∧ kd s w = kd r w := fun w hw => by
    have := h (8 + w) (by omega) (by omega)
    exact ⟨this, by show nn _ = nn _; rw [this]⟩
  have eh : ∀ w, w < 24 → s (32 + w) = r (32 + w) ∧ hv s w = hv r w := fun w hw => by
    have := h (32 + w) (by omega) (by omega)
    exact ⟨this, by show nn _ = nn _; rw [this]⟩
  have eo : ∀ w k, w < 24 → k < 4 → s (56 + 4 * w + k) = r (56 + 4 * w + k) ∧ op s w k = op r w k := fun w k hw hk => by
    have := h (56 + 4 * w + k) (by omega) (by omega)
    exact ⟨this, by show nn _ = nn _; rw [this]⟩
  have eu : ∀ o, o < 6 → s (152 + o) = r (152 + o) ∧ ou s o = ou r o := fun o ho => by
    have := h (152 + o) (by omega) (by omega)
    exact ⟨this, by show nn _ = nn _; rw [this]⟩
  have eb : ∀ b, b < 8 → (s (158 + 3 * b) = r (158 + 3 * b) ∧ bk s b = bk r b) ∧ (s (158 + 3 * b + 1) = r (158 + 3 * b + 1) ∧ ba s b = ba r b) ∧ (s (158 + 3 * b + 2) = r (158 + 3 * b + 2) ∧ bb s b = bb r b) := fun b hb => by
    have t1 := h (158 + 3 * b) (by omega) (by omega)
    have t2 := h (158 + 3 * b + 1) (by omega) (by omega)
    have t3 := h (158 + 3 * b + 2) (by omega) (by omega)
    exact ⟨⟨t1, by show nn _ = nn _; rw [t1]⟩, ⟨t2, by show nn _ = nn _; rw [t2]⟩, t3, by show nn _ = nn _; rw [t3]⟩
  unfold WFc
  rw [e0, e1, e2, e3, h 0 (by omega) (by omega), h 1 (by omega) (by omega), h 2 (by omega) (by omega), h 3 (by omega) (by omega)]
  refine ⟨⟨a1, a2⟩, ⟨b1, b2⟩, ⟨c1, c2⟩, ⟨d1, d2⟩, fun w h1 => ?_, fun w h1 h2 => ?_, fun w k h1 h2 hk => ?_, fun o h1 => ?_, fun b h1 => ?_⟩
  · rw [(ek w (by omega)).1, (eh w (by omega)).1]
    exact hi w h1
  · rw [(ek w (by omega)).1, (eh w (by omega)).1, (ek w (by omega)).2, (eh w (by omega)).2]
    exact hg w h1 h2
  · rw [(eh w (by omega)).2] at hk
    have h4 := (hg w h1 h2).2.2.2
    have h5 := mst_4 (kd r w)
    rw [(eo w k (by omega) (by omega)).1, (eo w k (by omega) (by omega)).2]
    exact ho w k h1 h2 hk
  · rw [(eu o (by omega)).1, (eu o (by omega)).2]
    exact hu o h1
  · obtain ⟨⟨p1, p2⟩, ⟨p3, p4⟩, p5, p6⟩ := eb b (by omega)
    rw [p1, p2, p3, p4, p5, p6]
    exact hb b h1
theorem RC.of {r s : Nat → Int32} (hw : WFc r) (h : ∀ k, k < 182 → k ≠ 4 → s k = r k) {v : Vs} (hC : RC r v) : RC s v := by
  have hn := hw.nf
  have e0 : NI s = NI r := by show nn (s 0) = nn (r 0); rw [h 0 (by omega) (by omega)]
  have e1 : NW s = NW r := by show nn (s 1) = nn (r 1); rw [h 1 (by omega) (by omega)]
  have e2 : NO s = NO r := by show nn (s 2) = nn (r 2); rw [h 2 (by omega) (by omega)]
  have e3 : NB s = NB r := by show nn (s 3) = nn (r 3); rw [h 3 (by omega) (by omega)]
  have h0 := h 0 (by omega) (by omega)
  have hr : ∀ k, 32 ≤ k → k < 152 → s k = r k := fun k h1 h2 => h k (by omega) (by omega)
  obtain ⟨a, b, c, d, e, f⟩ := hC
  unfold RC
  rw [e0, e1, e2, e3]
  refine ⟨a, fun w h1 => ?_, fun w k h1 h2 hk => ?_, fun w h1 => ?_, fun o h1 => ?_, fun x h1 => ?_⟩
  · rw [h _ (by omega) (by omega), h _ (by omega) (by omega)]
    exact b w h1
  · have eh : hv s w = hv r w := by show nn (s (32 + w)) = nn (r (32 + w)); rw [h _ (by omega) (by omega)]
    rw [eh] at hk
    have h4 := (hw.gate h1 h2).2.2.2.2.2.2.2.1
    rw [h _ (by omega) (by omega)]
    exact c w k h1 h2 hk
  · rw [lev_cong hw h0 hr (w + 1) w (by omega) h1, bel_cong hw h0 hr (w + 1) w (by omega) h1, use_cong hw h0 hr w (NW r) (Nat.le_refl _)]
    exact d w h1
  · rw [h _ (by omega) (by omega)]
    exact e o h1
  · rw [h _ (by omega) (by omega), h _ (by omega) (by omega), h _ (by omega) (by omega)]
    exact f x h1
/-- a row that agrees on the tests and the inputs' and outputs' numbers -/
theorem WFt.of {r s : Nat → Int32} (ht : WFt r) (hi : NI r ≤ 8) (h0 : s 0 = r 0) (h4 : s 4 = r 4) (h : ∀ k, 182 ≤ k → k < 440 → s k = r k) : WFt s := by
  have e0 : NI s = NI r := by show nn (s 0) = nn (r 0); rw [h0]
  have e4 : NT s = NT r := by show nn (s 4) = nn (r 4); rw [h4]
  obtain ⟨⟨a1, a2⟩, b, c⟩ := ht
  unfold WFt
  rw [e0, e4, h4]
  refine ⟨⟨a1, a2⟩, fun t i h1 h2 => ?_, fun t o h1 h2 => ?_⟩
  · have e := h (182 + 8 * t + i) (by omega) (by omega)
    have e9 : tv s t i = tv r t i := by show nn _ = nn _; rw [e]
    rw [e, e9]
    exact b t i h1 h2
  · have e := h (310 + 6 * t + o) (by omega) (by omega)
    have e9 : sn s t o = sn r t o := by show nn _ = nn _; rw [e]
    rw [e, e9]
    exact c t o h1 h2
theorem RT.of {r s : Nat → Int32} (hi : NI r ≤ 8) (hT16 : NT r ≤ 16) (h0 : s 0 = r 0) (h2 : s 2 = r 2) (h4 : s 4 = r 4) (h : ∀ k, 182 ≤ k → k < 440 → s k = r k) {v : Vs} (hT : RT r v) : RT s v := by
  have e0 : NI s = NI r := by show nn (s 0) = nn (r 0); rw [h0]
  have e2 : NO s = NO r := by show nn (s 2) = nn (r 2); rw [h2]
  have e4 : NT s = NT r := by show nn (s 4) = nn (r 4); rw [h4]
  obtain ⟨a, b, c⟩ := hT
  unfold RT
  rw [e0, e2, e4]
  refine ⟨a, fun t i h1 h2 => ?_, fun o t h1 h2 => ?_⟩
  · have e := h (182 + 8 * t + i) (by omega) (by omega)
    have e9 : tv s t i = tv r t i := by show nn _ = nn _; rw [e]
    rw [e9]
    exact b t i h1 h2
  · by_cases ht : t < NT r
    · have e := h (310 + 6 * t + o) (by omega) (by omega)
      have e9 : sn s t o = sn r t o := by show nn _ = nn _; rw [e]
      rw [e9]
      exact c o t h1 h2
    · obtain ⟨c1, c2⟩ := c o t h1 h2
      rw [c1, c2]
      simp [ht]
-- copies
theorem x_copyC {r : Nat → Int32} (hw : WFc r) {vC vE : Vs} (hC : RC r vE) : ∃ v', f_X0_copyFrom vC vE = some v' ∧ RC r v' := by
  have hn := hw.nf
  have hc : ∀ (f g : Nat → Int32) (n : Nat), n < 2147483648 → ∀ j, j < n → va_cpy f g ((0 : Int32)).toNatClampNeg ((0 : Int32)).toNatClampNeg (nI n).toNatClampNeg j = f j := fun f g n hn j hj => by
    have e0 : ((0 : Int32)).toNatClampNeg = 0 := rfl
    rw [e0, z_cl hn]
    unfold va_cpy
    simp [hj]
  unfold f_X0_copyFrom
  refine ⟨_, rfl, ?_⟩
  simp only [z_l24, z_l96, z_l6, z_l8]
  obtain ⟨⟨a1, a2, a3, a4⟩, b, c, d, e, f⟩ := hC
  refine ⟨⟨a1, a2, a3, a4⟩, fun w h1 => ?_, fun w k h1 h2 hk => ?_, fun w h1 => ?_, fun o h1 => ?_, fun x h1 => ?_⟩
  · simp only [z_bn, z_sA2, z_sA3, ne_eq, Nat.reduceEqDiff, not_false_eq_true]
    rw [hc _ _ _ (by omega) _ (by omega), hc _ _ _ (by omega) _ (by omega)]
    exact b w h1
  · have h4 := (hw.gate h1 h2).2.2.2.2.2.2.2.1
    simp only [z_bn, z_sA2, z_sA3, ne_eq, Nat.reduceEqDiff, not_false_eq_true]
    rw [hc _ _ _ (by omega) _ (by omega)]
    exact c w k h1 h2 hk
  · simp only [z_bn, z_sA2, z_sA3, ne_eq, Nat.reduceEqDiff, not_false_eq_true]
    rw [hc _ _ _ (by omega) _ (by omega), hc _ _ _ (by omega) _ (by omega), hc _ _ _ (by omega) _ (by omega)]
    exact d w h1
  · simp only [z_bn, z_sA2, z_sA3, ne_eq, Nat.reduceEqDiff, not_false_eq_true]
    rw [hc _ _ _ (by omega) _ (by omega)]
    exact e o h1
  · simp only [z_bn, z_sA2, z_sA3, ne_eq, Nat.reduceEqDiff, not_false_eq_true]
    rw [hc _ _ _ (by omega) _ (by omega), hc _ _ _ (by omega) _ (by omega), hc _ _ _ (by omega) _ (by omega)]
    exact f x h1
theorem x_copyT {r : Nat → Int32} (ht : WFt r) {vT vU : Vs} (hT : RT r vU) : ∃ v', f_X6_copyFrom vT vU = some v' ∧ RT r v' := by
  have h16 := ht.1.2
  have hc : ∀ (f g : Nat → Int32) (n : Nat), n < 2147483648 → ∀ j, j < n → va_cpy f g ((0 : Int32)).toNatClampNeg ((0 : Int32)).toNatClampNeg (nI n).toNatClampNeg j = f j := fun f g n hn j hj => by
    have e0 : ((0 : Int32)).toNatClampNeg = 0 := rfl
    rw [e0, z_cl hn]
    unfold va_cpy
    simp [hj]
  unfold f_X6_copyFrom
  refine ⟨_, rfl, ?_⟩
  simp only [z_l16, z_l6]
  obtain ⟨a, b, c⟩ := hT
  refine ⟨a, fun t i h1 h2 => ?_, fun o t h1 h2 => ?_⟩
  · simp only [z_bn, z_sA2, z_sA3, ne_eq, Nat.reduceEqDiff, not_false_eq_true]
    rw [hc _ _ _ (by omega) _ (by omega), hc _ _ _ (by omega) _ (by omega)]
    exact b t i h1 h2
  · simp only [z_bn, z_sA2, z_sA3, ne_eq, Nat.reduceEqDiff, not_false_eq_true]
    rw [hc _ _ _ (by omega) _ (by omega), hc _ _ _ (by omega) _ (by omega)]
    exact c o t h1 h2
