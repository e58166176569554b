/-! the row that is read: wires, outputs -/
theorem gsame {r s : Nat → Int32} (hw : WFc r) (h : ∀ k, k < 152 → k ≠ 2 → k ≠ 3 → k ≠ 4 → s k = r k) (c : s 2 = nI (NO s) ∧ NO s ≤ 6) (d : s 3 = nI (NB s) ∧ NB s ≤ 8) (ho : ∀ o, o < NO s → s (152 + o) = nI (ou s o) ∧ ou s o < NW r) (hb : ∀ b, b < NB s → (s (158 + 3 * b) = nI (bk s b) ∧ bk s b ≤ 1) ∧ (s (158 + 3 * b + 1) = nI (ba s b) ∧ ba s b < NW r) ∧ (s (158 + 3 * b + 2) = nI (bb s b) ∧ bb s b < NW r)) : WFc s ∧ NI s = NI r ∧ NW s = NW r := by
  have hn := hw.nf
  have e0 : NI s = NI r := by show nn (s 0) = nn (r 0); rw [h 0 (by omega) (by omega) (by omega) (by omega)]
  have e1 : NW s = NW r := by show nn (s 1) = nn (r 1); rw [h 1 (by omega) (by omega) (by omega) (by omega)]
  obtain ⟨a1, a2, a3, a4, a5, a6, a7, a8, a9⟩ := hw
  have ek : ∀ w, w < 24 → s (8 + w) = r (8 + w) ∧ kd s w = kd r w := fun w hw => by
    have := h (8 + w) (by omega) (by omega) (by omega) (by omega)
    exact ⟨this, by show nn _ = nn _; rw [this]⟩
  have eh : ∀ w, w < 24 → s (32 + w) = r (32 + w) ∧ hv s w = hv r w := fun w hw => by
    have := h (32 + w) (by omega) (by omega) (by omega) (by omega)
    exact ⟨this, by show nn _ = nn _; rw [this]⟩
  have eo : ∀ w k, w < 24 → k < 4 → s (56 + 4 * w + k) = r (56 + 4 * w + k) ∧ op s w k = op r w k := fun w k hw hk => by
    have := h (56 + 4 * w + k) (by omega) (by omega) (by omega) (by omega)
    exact ⟨this, by show nn _ = nn _; rw [this]⟩
  refine ⟨?_, e0, e1⟩
  unfold WFc
  rw [e0, e1, h 0 (by omega) (by omega) (by omega) (by omega), h 1 (by omega) (by omega) (by omega) (by omega)]
  refine ⟨a1, a2, c, d, fun w h1 => ?_, fun w h1 h2 => ?_, fun w k h1 h2 hk => ?_, ho, hb⟩
  · rw [(ek w (by omega)).1, (eh w (by omega)).1]
    exact a5 w h1
  · rw [(ek w (by omega)).1, (eh w (by omega)).1, (ek w (by omega)).2, (eh w (by omega)).2]
    exact a6 w h1 h2
  · rw [(eh w (by omega)).2] at hk
    have h4 := (a6 w h1 h2).2.2.2
    have h5 := mst_4 (kd r w)
    rw [(eo w k (by omega) (by omega)).1, (eo w k (by omega) (by omega)).2]
    exact a7 w k h1 h2 hk
theorem csame {r s : Nat → Int32} (hw : WFc r) (h : ∀ k, k < 152 → k ≠ 2 → k ≠ 3 → k ≠ 4 → s k = r k) {v v' : Vs} (hC : RC r v) (c0 : v'.1 0 = v.1 0) (c1 : v'.1 1 = v.1 1) (c2 : v'.1 2 = nI (NO s)) (c3 : v'.1 3 = nI (NB s)) (ca : ∀ j, 4 ≤ j → j ≤ 9 → v'.2.1 j = v.2.1 j) (ho : ∀ o, o < NO s → v'.2.1 10 o = s (152 + o)) (hb : ∀ x, x < NB s → v'.2.1 13 x = s (158 + 3 * x) ∧ v'.2.1 11 x = s (158 + 3 * x + 1) ∧ v'.2.1 12 x = s (158 + 3 * x + 2)) : RC s v' := by
  have hn := hw.nf
  have e0 : NI s = NI r := by show nn (s 0) = nn (r 0); rw [h 0 (by omega) (by omega) (by omega) (by omega)]
  have e1 : NW s = NW r := by show nn (s 1) = nn (r 1); rw [h 1 (by omega) (by omega) (by omega) (by omega)]
  have h0 := h 0 (by omega) (by omega) (by omega) (by omega)
  have hr : ∀ k, 32 ≤ k → k < 152 → s k = r k := fun k h1 h2 => h k h2 (by omega) (by omega) (by omega)
  obtain ⟨a, b, c, d, e, f⟩ := hC
  unfold RC
  rw [e0, e1, c0, c1, ca 4 (by omega) (by omega), ca 5 (by omega) (by omega), ca 6 (by omega) (by omega), ca 7 (by omega) (by omega), ca 8 (by omega) (by omega), ca 9 (by omega) (by omega)]
  refine ⟨⟨a.1, a.2.1, c2, c3⟩, fun w h1 => ?_, fun w k h1 h2 hk => ?_, fun w h1 => ?_, ho, hb⟩
  · rw [h _ (by omega) (by omega) (by omega) (by omega), h _ (by omega) (by omega) (by omega) (by omega)]
    exact b w h1
  · have eh : hv s w = hv r w := by show nn (s (32 + w)) = nn (r (32 + w)); rw [hr _ (by omega) (by omega)]
    rw [eh] at hk
    have h4 := (hw.gate h1 h2).2.2.2.2.2.2.2.1
    rw [hr _ (by omega) (by omega)]
    exact c w k h1 h2 hk
  · rw [lev_cong hw h0 hr (w + 1) w (by omega) h1, bel_cong hw h0 hr (w + 1) w (by omega) h1, use_cong hw h0 hr w (NW r) (Nat.le_refl _)]
    exact d w h1
theorem MH.put {B : Nat → Nat} {M a : Nat} {v0 v : Vs} {q : Nat → Int32} (h : MH B M v0 q a v) (k : Nat) (x : Int32) : MH B M v0 (upd q k x) a (sI v 2 k x) := by
  obtain ⟨hB, h14, haM, h15, h16, hq, p1, p2, p3, p4, p5⟩ := h
  refine ⟨⟨hB.1, hB.2.1, fun i hi => by rw [z_sI3 _ _ _ _ (by decide)]; exact hB.2.2 i hi⟩, h14, haM, h15, h16, fun j hj => ?_, p1, p2, p3, p4, by rw [z_sI3 _ _ _ _ (by decide)]; exact p5⟩
  rw [z_sI2]
  by_cases e : j = k
  · rw [z_u1 _ _ e, z_u1 _ _ e]
  · rw [z_u2 _ _ e, z_u2 _ _ e]
    exact hq j hj
def SN2 (q : Nat → Int32) : Prop := ∀ k, 310 ≤ k → k < 406 → q k = nI 2
/-- beyond the last wire nothing is counted yet -/
def ZC (q : Nat → Int32) (v : Vs) : Prop := ∀ w, NW q ≤ w → w < 24 → v.2.1 7 w = nI 0 ∧ v.2.1 8 w = nI 0 ∧ v.2.1 9 w = nI 0
theorem ZC.of {q q' : Nat → Int32} {v v' : Vs} (h : ZC q v) (e : NW q' = NW q) (ea : ∀ j, 4 ≤ j → j ≤ 9 → v'.2.1 j = v.2.1 j) : ZC q' v' := fun w h1 h2 => by
  rw [ea 7 (by omega) (by omega), ea 8 (by omega) (by omega), ea 9 (by omega) (by omega)]
  exact h w (by omega) h2
/-- both readers of a piece that ends in a semicolon and changes the circuit -/
def JC (B : Nat → Nat) (M : Nat) (v0 : Vs) (a : Nat) (vT : Vs) (X : Option (Int32 × Vs × Vs)) (Y : Option (Int32 × Vs)) : Prop :=
  (∃ vD' vC' vM' q' a', X = o2 (f_X5_readSemicolon vD') (fun r v => gd (isB r) (some (r, v, vC'))) ∧ Y = some (nI 1, vM') ∧ CH B M (rn isSp B M a') vD' ∧ MH B M v0 q' a' vM' ∧ GR q' vC' vT ∧ SN2 q' ∧ ZC q' vC' ∧ a ≤ a') ∨
  (∃ vD' vC' vM' c x, X = some (nI 0, vD', vC') ∧ Y = some (nI 0, vM') ∧ CF vD' c x ∧ FL v0 vM' c x ∧ c ≠ 0)
/-- one more output -/
theorem put_out {q : Nat → Int32} {vC vT : Vs} (hG : GR q vC vT) (hS : SN2 q) (h6 : NO q < 6) {n : Nat} (hn : n < NW q) : ∃ vC', f_X0_putOutput vC (nI n) = some vC' ∧ GR (upd (upd q (152 + NO q) (nI n)) 2 (nI (NO q + 1))) vC' vT ∧ NO (upd (upd q (152 + NO q) (nI n)) 2 (nI (NO q + 1))) = NO q + 1 ∧ (∀ j, 4 ≤ j → j ≤ 9 → vC'.2.1 j = vC.2.1 j) ∧ NW (upd (upd q (152 + NO q) (nI n)) 2 (nI (NO q + 1))) = NW q := by
  obtain ⟨hw, ht, hC, hT⟩ := hG
  have hnf := hw.nf
  have h16 := ht.1.2
  obtain ⟨s, hs⟩ : ∃ s, s = upd (upd q (152 + NO q) (nI n)) 2 (nI (NO q + 1)) := ⟨_, rfl⟩
  rw [← hs]
  have es : ∀ k, k ≠ 2 → k ≠ 152 + NO q → s k = q k := fun k a b => by rw [hs, z_u2 _ _ a, z_u2 _ _ b]
  have s2 : s 2 = nI (NO q + 1) := by rw [hs, z_u1 _ _ rfl]
  have so : s (152 + NO q) = nI n := by rw [hs, z_u2 _ _ (by omega), z_u1 _ _ rfl]
  have eNO : NO s = NO q + 1 := by show nn (s 2) = _; rw [s2, nn_nI (by omega)]
  have eNB : NB s = NB q := by show nn (s 3) = nn (q 3); rw [es 3 (by omega) (by omega)]
  have hlow : ∀ k, k < 152 → k ≠ 2 → k ≠ 3 → k ≠ 4 → s k = q k := fun k a b c d => es k b (by omega)
  obtain ⟨a1, a2, a3, a4, a5, a6, a7, a8, a9⟩ := id hw
  have hou : ∀ o, o < NO s → s (152 + o) = nI (ou s o) ∧ ou s o < NW q := fun o ho => by
    by_cases e : o = NO q
    · have : ou s o = n := by show nn (s (152 + o)) = n; rw [e, so, nn_nI (by omega)]
      rw [this, e, so]
      exact ⟨rfl, hn⟩
    · have e1 := es (152 + o) (by omega) (by omega)
      have e2 : ou s o = ou q o := by show nn _ = nn _; rw [e1]
      rw [e1, e2]
      exact a8 o (by omega)
  have hbr : ∀ b, b < NB s → (s (158 + 3 * b) = nI (bk s b) ∧ bk s b ≤ 1) ∧ (s (158 + 3 * b + 1) = nI (ba s b) ∧ ba s b < NW q) ∧ (s (158 + 3 * b + 2) = nI (bb s b) ∧ bb s b < NW q) := fun b hb => by
    have b1 := es (158 + 3 * b) (by omega) (by omega)
    have b2 := es (158 + 3 * b + 1) (by omega) (by omega)
    have b3 := es (158 + 3 * b + 2) (by omega) (by omega)
    have c1 : bk s b = bk q b := by show nn _ = nn _; rw [b1]
    have c2 : ba s b = ba q b := by show nn _ = nn _; rw [b2]
    have c3 : bb s b = bb q b := by show nn _ = nn _; rw [b3]
    rw [b1, b2, b3, c1, c2, c3]
    exact a9 b (by omega)
  obtain ⟨ws, e0, e1⟩ := gsame hw hlow ⟨by rw [eNO]; exact s2, by omega⟩ ⟨by rw [eNB, es 3 (by omega) (by omega)]; exact a4.1, by omega⟩ hou hbr
  obtain ⟨c1, c2, c3, c4, c5, c6⟩ := id hC
  refine ⟨sF (sI vC 10 (NO q) (nI n)) 2 (nI (NO q + 1)), ?_, ⟨ws, ?_, ?_, ?_⟩, eNO, fun j h1 h2 => by rw [z_sF0, z_sI3 _ _ _ _ (by omega)], e1⟩
  · unfold f_X0_putOutput
    rw [c1.2.2.1, z_inb (by omega) (by omega), z_gt, z_bn, z_cl (by omega), z_sI0, c1.2.2.1, z_p1]
    rfl
  · exact ht.of hnf.2.2.1 (es 0 (by omega) (by omega)) (es 4 (by omega) (by omega)) (fun k h1 h2 => es k (by omega) (by omega))
  · refine csame hw hlow hC rfl rfl (by rw [z_sF1, eNO]) ?_ (fun j h1 h2 => by rw [z_sF0, z_sI3 _ _ _ _ (by omega)]) (fun o ho => ?_) (fun x hx => ?_)
    · rw [z_sF2 _ _ _ (by decide), z_sI0, eNB]; exact c1.2.2.2
    · rw [z_sF0, z_sI2]
      by_cases e : o = NO q
      · rw [z_u1 _ _ e, e, so]
      · rw [z_u2 _ _ e, es _ (by omega) (by omega)]
        exact c5 o (by omega)
    · rw [z_sF0, z_sI3 _ _ _ _ (by decide), z_sI3 _ _ _ _ (by decide), z_sI3 _ _ _ _ (by decide), es _ (by omega) (by omega), es _ (by omega) (by omega), es _ (by omega) (by omega)]
      exact c6 x (by omega)
  · -- the tests' lists hang on the number of outputs only through what was seen
    obtain ⟨t1, t2, t3⟩ := hT
    unfold RT
    have eT : NT s = NT q := by show nn (s 4) = nn (q 4); rw [es 4 (by omega) (by omega)]
    rw [eT, e0, eNO]
    refine ⟨t1, fun t i h1 h2 => ?_, fun o t h1 h2 => ?_⟩
    · have e9 : tv s t i = tv q t i := by show nn _ = nn _; rw [es _ (by omega) (by omega)]
      rw [e9]
      exact t2 t i h1 h2
    · obtain ⟨c1', c2'⟩ := t3 o t h1 h2
      rw [c1', c2']
      by_cases ct : t < NT q
      · have hq2 := hS (310 + 6 * t + o) (by omega) (by omega)
        have sq : sn q t o = 2 := by show nn (q (310 + 6 * t + o)) = 2; rw [hq2]; rfl
        have ss : sn s t o = 2 := by show nn (s (310 + 6 * t + o)) = 2; rw [es _ (by omega) (by omega), hq2]; rfl
        rw [sq, ss]
        simp
      · simp [ct]
