/-! the row of the circuit that is drawn -/
theorem opQ_in (q : Nat → Int32) (o : Nat → Nat) : ∀ n k, k < n → opQ q o n (56 + 4 * NW q + k) = nI (o k)
  | 0, k, h => by omega
  | n + 1, k, h => by
    show upd (opQ q o n) (56 + 4 * NW q + n) (nI (o n)) (56 + 4 * NW q + k) = _
    by_cases e : k = n
    · rw [e, z_u1 _ _ rfl]
    · rw [z_u2 _ _ (by omega)]
      exact opQ_in q o n k (by omega)
theorem rowG_gate {I : Nat} (hI : I ≤ 3) {K n : Nat → Nat} {o : Nat → Nat → Nat} (hn : ∀ g, n g ≤ 4) : ∀ st, st ≤ 6 → ∀ g, g < st → rowG I K n o st (8 + (I + g)) = nI (K g) ∧ rowG I K n o st (32 + (I + g)) = nI (n g) ∧ ∀ k, k < n g → rowG I K n o st (56 + 4 * (I + g) + k) = nI (o g k)
  | 0, _, g, h => by omega
  | st + 1, hs, g, h => by
    obtain ⟨r1, r2, r3, r4, r5⟩ := rowG_at (I := I) (K := K) (n := n) (o := o) (by omega) hn st (by omega)
    obtain ⟨k1, k2, k3, k4⟩ := gtQ_at (q := rowG I K n o st) (K := K st) (n := n st) (o := o st) (hn st) r2 (by omega)
    by_cases e : g = st
    · subst e
      refine ⟨k3, k4, fun k hk => ?_⟩
      have := hn g
      show gtQ (rowG I K n o g) (K g) (n g) (o g) (56 + 4 * (I + g) + k) = _
      unfold gtQ
      rw [z_u2 _ _ (by omega), r2, z_u2 _ _ (by omega), z_u2 _ _ (by omega), ← r2]
      exact opQ_in _ _ _ _ hk
    · obtain ⟨a, b, c⟩ := rowG_gate hI hn st (by omega) g (by omega)
      have hk : ∀ c, c ≠ 1 → (c < 56 + 4 * (I + st) ∨ 56 + 4 * (I + st) + 4 ≤ c) → c ≠ 8 + (I + st) → c ≠ 32 + (I + st) → rowG I K n o (st + 1) c = rowG I K n o st c := fun c h1 h2 h3 h4 => k1 c h1 h2 h3 h4
      refine ⟨by rw [hk _ (by omega) (by omega) (by omega) (by omega)]; exact a, by rw [hk _ (by omega) (by omega) (by omega) (by omega)]; exact b, fun k hk4 => ?_⟩
      have := hn g
      rw [hk _ (by omega) (by omega) (by omega) (by omega)]
      exact c k hk4
theorem outQ_out (q : Nat → Int32) (w : Nat → Nat) {c : Nat} (h2 : c ≠ 2) (h : c < 152 ∨ 155 ≤ c) : outQ q w 3 c = q c := by
  show upd (upd (upd (upd (upd (upd q (152 + 0) _) 2 _) (152 + 1) _) 2 _) (152 + 2) _) 2 _ c = _
  rw [z_u2 _ _ h2, z_u2 _ _ (by omega), z_u2 _ _ h2, z_u2 _ _ (by omega), z_u2 _ _ h2, z_u2 _ _ (by omega)]
theorem outQ_in (q : Nat → Int32) (w : Nat → Nat) : outQ q w 3 2 = nI 3 ∧ ∀ k, k < 3 → outQ q w 3 (152 + k) = nI (w k) := by
  refine ⟨z_u1 _ _ rfl, fun k hk => ?_⟩
  show upd (upd (upd (upd (upd (upd q (152 + 0) _) 2 _) (152 + 1) _) 2 _) (152 + 2) _) 2 _ (152 + k) = _
  have : k = 0 ∨ k = 1 ∨ k = 2 := by omega
  rcases this with rfl | rfl | rfl
  · rw [z_u2 _ _ (by omega), z_u2 _ _ (by omega), z_u2 _ _ (by omega), z_u2 _ _ (by omega), z_u2 _ _ (by omega), z_u1 _ _ rfl]
  · rw [z_u2 _ _ (by omega), z_u2 _ _ (by omega), z_u2 _ _ (by omega), z_u1 _ _ rfl]
  · rw [z_u2 _ _ (by omega), z_u1 _ _ rfl]
theorem brQ_out (q : Nat → Int32) (h0 : NB q = 0) (t x y : Nat) {c : Nat} (h3 : c ≠ 3) (h : c < 158 ∨ 161 ≤ c) : brQ q t x y c = q c := by
  unfold brQ
  rw [h0, z_u2 _ _ h3, z_u2 _ _ (by omega), z_u2 _ _ (by omega), z_u2 _ _ (by omega)]
theorem brQ_in (q : Nat → Int32) (h0 : NB q = 0) (t x y : Nat) : brQ q t x y 3 = nI 1 ∧ brQ q t x y 158 = nI t ∧ brQ q t x y 159 = nI x ∧ brQ q t x y 160 = nI y := by
  unfold brQ
  rw [h0]
  refine ⟨z_u1 _ _ rfl, ?_, ?_, ?_⟩
  · rw [z_u2 _ _ (by omega), z_u2 _ _ (by omega), z_u2 _ _ (by omega), z_u1 _ _ (by omega)]
  · rw [z_u2 _ _ (by omega), z_u2 _ _ (by omega), z_u1 _ _ (by omega)]
  · rw [z_u2 _ _ (by omega), z_u1 _ _ (by omega)]
theorem cir_is {I G : Nat} (hI : I ≤ 3) (hG : G ≤ 6) {K n : Nat → Nat} {o : Nat → Nat → Nat} (hK : ∀ g, K g < 9) (hn : ∀ g, n g ≤ 4) (ho : ∀ g k, o g k < I + g) {b : Bool} {kb : Nat} (hkb : kb < 2) :
    NI (cirQ I G K n o b kb) = I ∧ NW (cirQ I G K n o b kb) = I + G ∧ NO (cirQ I G K n o b kb) = 3 ∧ NT (cirQ I G K n o b kb) = 0 ∧ (NB (cirQ I G K n o b kb) = if b = true then 1 else 0) ∧ (∀ g, g < G → kd (cirQ I G K n o b kb) (I + g) = K g ∧ hv (cirQ I G K n o b kb) (I + g) = n g ∧ ∀ k, k < n g → op (cirQ I G K n o b kb) (I + g) k = o g k) ∧ (∀ k, k < 3 → ou (cirQ I G K n o b kb) k = outW (I + G) k) ∧ (b = true → bk (cirQ I G K n o b kb) 0 = kb ∧ ba (cirQ I G K n o b kb) 0 = 0 ∧ bb (cirQ I G K n o b kb) 0 = 1) := by
  obtain ⟨r1, r2, r3, r4, r5⟩ := rowG_at (I := I) (K := K) (n := n) (o := o) (by omega) hn G hG
  have rg := rowG_gate (K := K) (o := o) hI hn G hG
  have q0 : NB (outQ (rowG I K n o G) (outW (I + G)) 3) = 0 := by
    show nn (outQ _ _ 3 3) = 0
    rw [outQ_out _ _ (by omega) (by omega)]
    exact r4
  have hc : ∀ c, c ≠ 2 → c ≠ 3 → c < 152 → cirQ I G K n o b kb c = rowG I K n o G c := fun c h2 h3 h => by
    unfold cirQ
    cases b
    · rw [if_neg (by decide)]
      exact outQ_out _ _ h2 (by omega)
    · rw [if_pos rfl, brQ_out _ q0 _ _ _ h3 (by omega)]
      exact outQ_out _ _ h2 (by omega)
  have hc2 : ∀ c, c ≠ 3 → c < 155 → cirQ I G K n o b kb c = outQ (rowG I K n o G) (outW (I + G)) 3 c := fun c h3 h => by
    unfold cirQ
    cases b
    · rw [if_neg (by decide)]
    · rw [if_pos rfl, brQ_out _ q0 _ _ _ h3 (by omega)]
  obtain ⟨i1, i2⟩ := outQ_in (rowG I K n o G) (outW (I + G))
  refine ⟨?_, ?_, ?_, ?_, ?_, fun g hg => ⟨?_, ?_, fun k hk => ?_⟩, fun k hk => ?_, fun hb => ?_⟩
  · show nn (cirQ I G K n o b kb 0) = I
    rw [hc 0 (by omega) (by omega) (by omega)]
    exact r1
  · show nn (cirQ I G K n o b kb 1) = I + G
    rw [hc 1 (by omega) (by omega) (by omega)]
    exact r2
  · show nn (cirQ I G K n o b kb 2) = 3
    rw [hc2 2 (by omega) (by omega), i1, nn_nI (by omega)]
  · show nn (cirQ I G K n o b kb 4) = 0
    rw [hc 4 (by omega) (by omega) (by omega)]
    exact r5
  · show nn (cirQ I G K n o b kb 3) = _
    unfold cirQ
    cases b
    · rw [if_neg (by decide), if_neg (by decide)]
      exact q0
    · rw [if_pos rfl, if_pos rfl, (brQ_in _ q0 _ _ _).1, nn_nI (by omega)]
  · show nn (cirQ I G K n o b kb (8 + (I + g))) = K g
    rw [hc _ (by omega) (by omega) (by omega), (rg g hg).1, nn_nI (by have := hK g; omega)]
  · show nn (cirQ I G K n o b kb (32 + (I + g))) = n g
    rw [hc _ (by omega) (by omega) (by omega), (rg g hg).2.1, nn_nI (by have := hn g; omega)]
  · show nn (cirQ I G K n o b kb (56 + 4 * (I + g) + k)) = o g k
    have := hn g
    have := ho g k
    rw [hc _ (by omega) (by omega) (by omega), (rg g hg).2.2 k hk, nn_nI (by omega)]
  · show nn (cirQ I G K n o b kb (152 + k)) = _
    rw [hc2 _ (by omega) (by omega), i2 k hk, nn_nI (by unfold outW; omega)]
  · subst hb
    obtain ⟨-, j1, j2, j3⟩ := brQ_in _ q0 kb 0 1
    unfold cirQ
    rw [if_pos rfl]
    refine ⟨?_, ?_, ?_⟩
    · show nn (brQ _ kb 0 1 158) = kb
      rw [j1, nn_nI (by omega)]
    · show nn (brQ _ kb 0 1 159) = 0
      rw [j2, nn_nI (by omega)]
    · show nn (brQ _ kb 0 1 160) = 1
      rw [j3, nn_nI (by omega)]
theorem RM.of {r s : Nat → Int32} (hw : WFc r) (h : ∀ k, k < 182 → k ≠ 4 → s k = r k) {vM vK vP vQ : Vs} (hm : RM r vM vK vP vQ) : RM s vM vK vP vQ := by
  have e : ∀ k, k < 182 → k ≠ 4 → nn (s k) = nn (r k) := fun k h1 h2 => by rw [h k h1 h2]
  have e0 : NI s = NI r := e 0 (by omega) (by omega)
  have e1 : NW s = NW r := e 1 (by omega) (by omega)
  have e2 : NO s = NO r := e 2 (by omega) (by omega)
  have e3 : NB s = NB r := e 3 (by omega) (by omega)
  obtain ⟨a, hb, ⟨k1, k2⟩, ⟨p1, p2, p3⟩, ⟨q1, q2, q3⟩, i1, i2, i3, i4⟩ := hm
  have eb : bk s 0 = bk r 0 ∧ ba s 0 = ba r 0 ∧ bb s 0 = bb r 0 := ⟨e 158 (by omega) (by omega), e 159 (by omega) (by omega), e 160 (by omega) (by omega)⟩
  unfold RM
  rw [e0, e1, e2, e3, eb.1, eb.2.1, eb.2.2]
  refine ⟨a, hb, ⟨k1, fun w h1 h2 => ?_⟩, ⟨p1, p2, fun o ho => ?_⟩, ⟨q1, q2, fun w h1 h2 => ⟨?_, fun k hk => ?_⟩⟩, i1, i2, i3, i4⟩
  · rw [show kd s w = kd r w from e (8 + w) (by omega) (by omega)]
    exact k2 w h1 h2
  · rw [show ou s o = ou r o from e (152 + o) (by omega) (by omega)]
    exact p3 o ho
  · rw [show hv s w = hv r w from e (32 + w) (by omega) (by omega)]
    exact (q3 w h1 h2).1
  · rw [show hv s w = hv r w from e (32 + w) (by omega) (by omega)] at hk
    have hq := (q3 w h1 h2).2 k hk
    have hg := hw.gate h1 h2
    rw [show op s w k = op r w k from e (56 + 4 * w + k) (by omega) (by omega)]
    exact hq
