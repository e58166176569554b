/-! a gate that is read: its operands so far, its end -/
def GO (q : Nat → Int32) (vC : Vs) (K k : Nat) (q' : Nat → Int32) (u : Vs) : Prop :=
  (∀ j, j < k → q' (56 + 4 * NW q + j) = nI (op q' (NW q) j) ∧ op q' (NW q) j < NW q ∧ u.2.1 6 (NW q * 4 + j) = nI (op q' (NW q) j)) ∧
  (∀ c, c < 440 → (c < 56 + 4 * NW q ∨ 56 + 4 * NW q + 4 ≤ c) → q' c = q c) ∧
  u.1 = vC.1 ∧ u.2.1 4 (NW q) = nI K ∧ u.2.1 5 (NW q) = nI k ∧ (∀ w, w < NW q → u.2.1 4 w = vC.2.1 4 w ∧ u.2.1 5 w = vC.2.1 5 w) ∧ (∀ x, x < 4 * NW q → u.2.1 6 x = vC.2.1 6 x) ∧ (∀ j, j ≠ 4 → j ≠ 5 → j ≠ 6 → u.2.1 j = vC.2.1 j)
theorem GO.start {q : Nat → Int32} {vC vT : Vs} (hG : GR q vC vT) (h16 : NW q < NI q + 16) (K : Nat) : ∃ u, f_X0_startGate vC (nI K) = some u ∧ GO q vC K 0 q u := by
  obtain ⟨hw, ht, hC, hT⟩ := hG
  have hnf := hw.nf
  have hin : inb (nI (NW q)) 24 = true := z_inb (by omega) (by omega)
  have hc : (nI (NW q)).toNatClampNeg = NW q := z_cl (by omega)
  refine ⟨sI (sI vC 4 (NW q) (nI K)) 5 (NW q) (nI 0), ?_, fun j hj => by omega, fun c _ _ => rfl, rfl, ?_, ?_, fun w hw => ⟨?_, ?_⟩, fun x hx => ?_, fun j a b c => ?_⟩
  · unfold f_X0_startGate
    rw [hC.1.2.1, hin, z_gt, z_bn, hc, z_sI0, hC.1.2.1, hin, z_gt, z_bn, hc]
    rfl
  · rw [z_sI3 _ _ _ _ (by decide), z_sI2, z_u1 _ _ rfl]
  · rw [z_sI2, z_u1 _ _ rfl]
  · rw [z_sI3 _ _ _ _ (by decide), z_sI2, z_u2 _ _ (by omega)]
  · rw [z_sI2, z_u2 _ _ (by omega), z_sI3 _ _ _ _ (by decide)]
  · rw [z_sI3 _ _ _ _ (by decide), z_sI3 _ _ _ _ (by decide)]
  · rw [z_sI3 _ _ _ _ b, z_sI3 _ _ _ _ a]
theorem GO.put {q q' : Nat → Int32} {vC vT u : Vs} {K k : Nat} (hG : GR q vC vT) (h16 : NW q < NI q + 16) (h : GO q vC K k q' u) (h4 : k < 4) {n : Nat} (hn : n < NW q) : ∃ u', f_X0_putOperand u (nI n) = some u' ∧ GO q vC K (k + 1) (upd q' (56 + 4 * NW q + k) (nI n)) u' := by
  obtain ⟨hw, ht, hC, hT⟩ := hG
  have hnf := hw.nf
  obtain ⟨g1, g2, g3, g4, g5, g6, g7, g8⟩ := h
  have hin : inb (nI (NW q)) 24 = true := z_inb (by omega) (by omega)
  have hc : (nI (NW q)).toNatClampNeg = NW q := z_cl (by omega)
  have u1 : u.1 1 = nI (NW q) := by rw [g3]; exact hC.1.2.1
  refine ⟨sI (sI u 6 (NW q * 4 + k) (nI n)) 5 (NW q) (nI (k + 1)), ?_, fun j hj => ?_, fun c c1 c2 => ?_, g3, ?_, ?_, fun w hw => ⟨?_, ?_⟩, fun x hx => ?_, fun j a b c => ?_⟩
  · unfold f_X0_putOperand
    have f5 : ∀ x y, (sI u 6 x y).2.1 5 = u.2.1 5 := fun x y => z_sI3 _ _ _ _ (by decide)
    rw [u1, hin, z_gt, hc, g5, z_l4, z_mul, nI_add, z_inb (show NW q * 4 + k < 96 by omega) (by omega), z_gt, z_bn, z_cl (by omega), z_sI0, u1, hin, z_gt, z_gt, z_bn, hc, f5, g5, z_p1]
  · have e6 : (sI (sI u 6 (NW q * 4 + k) (nI n)) 5 (NW q) (nI (k + 1))).2.1 6 (NW q * 4 + j) = upd (u.2.1 6) (NW q * 4 + k) (nI n) (NW q * 4 + j) := by rw [z_sI3 _ _ _ _ (by decide), z_sI2]
    rw [e6]
    have eop : op (upd q' (56 + 4 * NW q + k) (nI n)) (NW q) j = nn (upd q' (56 + 4 * NW q + k) (nI n) (56 + 4 * NW q + j)) := rfl
    rw [eop]
    by_cases e : j = k
    · rw [z_u1 _ _ (by omega), z_u1 _ _ (by omega), nn_nI (by omega)]
      exact ⟨rfl, hn, rfl⟩
    · rw [z_u2 _ _ (by omega), z_u2 _ _ (by omega)]
      exact g1 j (by omega)
  · rw [z_u2 _ _ (by omega)]
    exact g2 c c1 c2
  · rw [z_sI3 _ _ _ _ (by decide), z_sI3 _ _ _ _ (by decide)]
    exact g4
  · rw [z_sI2, z_u1 _ _ rfl]
  · rw [z_sI3 _ _ _ _ (by decide), z_sI3 _ _ _ _ (by decide)]
    exact (g6 w hw).1
  · rw [z_sI2, z_u2 _ _ (by omega), z_sI3 _ _ _ _ (by decide)]
    exact (g6 w hw).2
  · rw [z_sI3 _ _ _ _ (by decide), z_sI2, z_u2 _ _ (by omega)]
    exact g7 x hx
  · rw [z_sI3 _ _ _ _ b, z_sI3 _ _ _ _ c]
    exact g8 j a b c
theorem GO.fin {q q' : Nat → Int32} {vC vT u : Vs} {K k : Nat} (hG : GR q vC vT) (h16 : NW q < NI q + 16) (hS : SN2 q) (hZ : ZC q vC) (h : GO q vC K k q' u) (hK : K ≤ 8) (hk1 : few K ≤ k) (hk2 : k ≤ mst K) : ∃ u', f_X0_endGate u = some u' ∧ GR (upd (upd (upd q' (8 + NW q) (nI K)) (32 + NW q) (nI k)) 1 (nI (NW q + 1))) u' vT ∧ SN2 (upd (upd (upd q' (8 + NW q) (nI K)) (32 + NW q) (nI k)) 1 (nI (NW q + 1))) ∧ ZC (upd (upd (upd q' (8 + NW q) (nI K)) (32 + NW q) (nI k)) 1 (nI (NW q + 1))) u' := by
  obtain ⟨hw, ht, hC, hT⟩ := hG
  have hnf := hw.nf
  have hm := mst_4 K
  obtain ⟨g1, g2, g3, g4, g5, g6, g7, g8⟩ := h
  obtain ⟨s, hs⟩ : ∃ s, s = upd (upd (upd q' (8 + NW q) (nI K)) (32 + NW q) (nI k)) 1 (nI (NW q + 1)) := ⟨_, rfl⟩
  rw [← hs]
  have es : ∀ c, c ≠ 1 → c ≠ 8 + NW q → c ≠ 32 + NW q → s c = q' c := fun c a b d => by rw [hs, z_u2 _ _ a, z_u2 _ _ d, z_u2 _ _ b]
  have hGW : GW q s K k (op q' (NW q)) := by
    refine ⟨by rw [hs, z_u1 _ _ rfl], by rw [hs, z_u2 _ _ (by omega), z_u2 _ _ (by omega), z_u1 _ _ rfl], by rw [hs, z_u2 _ _ (by omega), z_u1 _ _ rfl], fun j hj => ?_, fun c c1 c2 c3 c4 c5 => ?_⟩
    · rw [es _ (by omega) (by omega) (by omega)]
      exact ⟨(g1 j hj).1, (g1 j hj).2.1⟩
    · rw [es c c2 c3 c4]
      exact g2 c c1 c5
  obtain ⟨ws, hGS, e0, e1, e2, e3, eh, ek, eo⟩ := GW.wf hw h16 hK hk1 hk2 hGW
  have hlow : ∀ c, c < 440 → c ≠ 1 → c ≠ 8 + NW q → c ≠ 32 + NW q → (c < 56 + 4 * NW q ∨ 56 + 4 * NW q + 4 ≤ c) → s c = q c := hGW.2.2.2.2
  have h0 := hlow 0 (by omega) (by omega) (by omega) (by omega) (by omega)
  have h2 := hlow 2 (by omega) (by omega) (by omega) (by omega) (by omega)
  have h4 := hlow 4 (by omega) (by omega) (by omega) (by omega) (by omega)
  have hhi : ∀ c, 152 ≤ c → c < 440 → s c = q c := fun c a b => hlow c b (by omega) (by omega) (by omega) (by omega)
  obtain ⟨c1, c2, c3, c4, c5, c6⟩ := id hC
  have hWI := hw.2.1.2.1
  obtain ⟨u', eE, x1, x2, x3, x4, x5⟩ := x_endGate (v := u) ws e1 (by omega) eh (by rw [g3]; exact c1.2.1) g5 (fun j hj => by rw [eo j hj]; exact (g1 j hj).2.2) (fun w hwW => by
    rw [g8 7 (by decide) (by decide) (by decide), g8 8 (by decide) (by decide) (by decide), g8 9 (by decide) (by decide) (by decide), lev_gs hw hGS (w + 1) w (by omega) hwW, bel_gs hw hGS (w + 1) w (by omega) hwW, use_gs hw hGS w (NW q) (Nat.le_refl _)]
    exact c4 w hwW) (fun w a b => by
    rw [g8 7 (by decide) (by decide) (by decide), g8 8 (by decide) (by decide) (by decide), g8 9 (by decide) (by decide) (by decide)]
    exact hZ w a b)
  refine ⟨u', eE, ⟨ws, ?_, ?_, ?_⟩, fun c a b => ?_, fun w a b => ?_⟩
  · exact ht.of hnf.2.2.1 h0 h4 (fun c a b => hhi c (by omega) b)
  · refine ⟨⟨?_, ?_, ?_, ?_⟩, fun w h1 => ?_, fun w j a b hj => ?_, fun w h1 => ?_, fun o ho => ?_, fun b hb => ?_⟩
    · rw [x2 0 (by decide), g3, e0]; exact c1.1
    · rw [x1, e1]
    · rw [x2 2 (by decide), g3, e2]; exact c1.2.2.1
    · rw [x2 3 (by decide), g3, e3]; exact c1.2.2.2
    · rw [x3 4 (by decide) (by decide) (by decide), x3 5 (by decide) (by decide) (by decide)]
      by_cases e : w = NW q
      · rw [e, g4, g5]
        exact ⟨hGW.2.1.symm, hGW.2.2.1.symm⟩
      · rw [(g6 w (by omega)).1, (g6 w (by omega)).2, hlow (8 + w) (by omega) (by omega) (by omega) (by omega) (by omega), hlow (32 + w) (by omega) (by omega) (by omega) (by omega) (by omega)]
        exact c2 w (by omega)
    · rw [x3 6 (by decide) (by decide) (by decide)]
      by_cases e : w = NW q
      · rw [e] at hj ⊢
        rw [eh] at hj
        rw [(g1 j hj).2.2, (hGW.2.2.2.1 j hj).1]
      · obtain ⟨-, y2, y3⟩ := hGS.at hw (w := w) (by omega)
        rw [y2] at hj
        have h44 := (hw.gate (w := w) (by omega) (by omega)).2.2.2.2.2.2.2.1
        rw [g7 _ (by omega), hlow (56 + 4 * w + j) (by omega) (by omega) (by omega) (by omega) (by omega)]
        exact c3 w j (by omega) (by omega) hj
    · rw [e1] at h1 ⊢
      exact x4 w h1
    · rw [x3 10 (by decide) (by decide) (by decide), g8 10 (by decide) (by decide) (by decide), hhi _ (by omega) (by omega)]
      exact c5 o (by omega)
    · rw [x3 13 (by decide) (by decide) (by decide), x3 11 (by decide) (by decide) (by decide), x3 12 (by decide) (by decide) (by decide), g8 13 (by decide) (by decide) (by decide), g8 11 (by decide) (by decide) (by decide), g8 12 (by decide) (by decide) (by decide), hhi _ (by omega) (by omega), hhi _ (by omega) (by omega), hhi _ (by omega) (by omega)]
      exact c6 b (by omega)
  · exact RT.of hnf.2.2.1 ht.1.2 h0 h2 h4 (fun c a b => hhi c (by omega) b) hT
  · rw [hhi c (by omega) (by omega)]
    exact hS c a b
  · rw [e1] at a
    exact x5 w a b
