/-! the whole of a known text -/
theorem tk0 {B : Nat → Nat} {M s : Nat} : tkind B M s = 0 ↔ ¬ s < M := by
  unfold tkind
  by_cases c : s < M
  · rw [if_pos c]
    refine ⟨fun h => ?_, fun h => absurd c h⟩
    split at h
    · omega
    · split at h
      · omega
      · split at h <;> omega
  · rw [if_neg c]
    exact ⟨fun _ => c, fun _ => rfl⟩
def gtsT (K n : Nat → Nat) (o : Nat → Nat → Nat) : Nat → List Nat
  | 0 => []
  | g + 1 => gtsT K n o g ++ gtT (K g) (n g) (o g)
def rowG (I : Nat) (K n : Nat → Nat) (o : Nat → Nat → Nat) : Nat → Nat → Int32
  | 0 => P1 I
  | g + 1 => gtQ (rowG I K n o g) (K g) (n g) (o g)
def outW (W : Nat) (k : Nat) : Nat := W - 1 - k
/-- the text of a circuit; b: with a bridge -/
def cirT (I G : Nat) (K n : Nat → Nat) (o : Nat → Nat → Nat) (b : Bool) (kb : Nat) : List Nat := hdT I ++ gtsT K n o G ++ otT (outW (I + G)) ++ (if b = true then brT kb else [])
def cirQ (I G : Nat) (K n : Nat → Nat) (o : Nat → Nat → Nat) (b : Bool) (kb : Nat) : Nat → Int32 := if b = true then brQ (outQ (rowG I K n o G) (outW (I + G)) 3) kb 0 1 else outQ (rowG I K n o G) (outW (I + G)) 3
theorem opQ_out (q : Nat → Int32) (o : Nat → Nat) {c : Nat} : ∀ n, (c < 56 + 4 * NW q ∨ 56 + 4 * NW q + n ≤ c) → opQ q o n c = q c
  | 0, _ => rfl
  | n + 1, h => by
    show upd (opQ q o n) (56 + 4 * NW q + n) (nI (o n)) c = q c
    rw [z_u2 _ _ (by omega)]
    exact opQ_out q o n (by omega)
theorem gtQ_at {q : Nat → Int32} {K n : Nat} {o : Nat → Nat} (hn : n ≤ 4) {W : Nat} (hW : NW q = W) (h24 : W < 24) : (∀ c, c ≠ 1 → (c < 56 + 4 * W ∨ 56 + 4 * W + 4 ≤ c) → c ≠ 8 + W → c ≠ 32 + W → gtQ q K n o c = q c) ∧ gtQ q K n o 1 = nI (W + 1) ∧ gtQ q K n o (8 + W) = nI K ∧ gtQ q K n o (32 + W) = nI n := by
  subst hW
  unfold gtQ
  refine ⟨fun c h1 h2 h3 h4 => ?_, z_u1 _ _ rfl, ?_, ?_⟩
  · rw [z_u2 _ _ h1, z_u2 _ _ h4, z_u2 _ _ h3]
    exact opQ_out q o n (by omega)
  · rw [z_u2 _ _ (by omega), z_u2 _ _ (by omega), z_u1 _ _ rfl]
  · rw [z_u2 _ _ (by omega), z_u1 _ _ rfl]
theorem rowG_at {I : Nat} (hI : I ≤ 8) {K n : Nat → Nat} {o : Nat → Nat → Nat} (hn : ∀ g, n g ≤ 4) : ∀ g, g ≤ 6 → NI (rowG I K n o g) = I ∧ NW (rowG I K n o g) = I + g ∧ NO (rowG I K n o g) = 0 ∧ NB (rowG I K n o g) = 0 ∧ NT (rowG I K n o g) = 0
  | 0, _ => by
    obtain ⟨a, b, c, d, e, -⟩ := P1_at (i := I) (by omega)
    exact ⟨a, b, c, d, e⟩
  | g + 1, h => by
    obtain ⟨a, b, c, d, e⟩ := rowG_at hI hn g (by omega)
    obtain ⟨k1, k2, -⟩ := gtQ_at (q := rowG I K n o g) (K := K g) (n := n g) (o := o g) (hn g) b (by omega)
    have kk : ∀ c, c < 8 → c ≠ 1 → nn (rowG I K n o (g + 1) c) = nn (rowG I K n o g c) := fun c h1 h2 => by
      show nn (gtQ (rowG I K n o g) (K g) (n g) (o g) c) = _
      rw [k1 c h2 (by omega) (by omega) (by omega)]
    refine ⟨(kk 0 (by omega) (by omega)).trans a, ?_, (kk 2 (by omega) (by omega)).trans c, (kk 3 (by omega) (by omega)).trans d, (kk 4 (by omega) (by omega)).trans e⟩
    show nn (gtQ (rowG I K n o g) (K g) (n g) (o g) 1) = I + (g + 1)
    rw [k2, nn_nI (by omega)]
    omega
theorem gts_le {K n : Nat → Nat} {o : Nat → Nat → Nat} {B : Nat → Nat} {s : Nat} : ∀ G, PC B s (gtsT K n o G) → ∀ g, g ≤ G → PC B s (gtsT K n o g)
  | 0, h, g, hg => by
    obtain rfl : g = 0 := by omega
    exact h
  | G + 1, h, g, hg => by
    rcases Nat.lt_or_ge g (G + 1) with q | q
    · exact gts_le G (PC.app (L := gtsT K n o G) (R := gtT (K G) (n G) (o G)) h).1 g (by omega)
    · obtain rfl : g = G + 1 := by omega
      exact h
theorem gts_at {K n : Nat → Nat} {o : Nat → Nat → Nat} {B : Nat → Nat} {s G : Nat} (h : PC B s (gtsT K n o G)) {g : Nat} (hg : g < G) : PC B (s + (gtsT K n o g).length) (gtT (K g) (n g) (o g)) := (PC.app (L := gtsT K n o g) (R := gtT (K g) (n g) (o g)) (gts_le G h (g + 1) (by omega))).2
theorem gts_mono (K n : Nat → Nat) (o : Nat → Nat → Nat) : ∀ G g, g ≤ G → (gtsT K n o g).length ≤ (gtsT K n o G).length
  | 0, g, h => by
    obtain rfl : g = 0 := by omega
    exact Nat.le_refl _
  | G + 1, g, h => by
    rcases Nat.lt_or_ge g (G + 1) with q | q
    · have := gts_mono K n o G g (by omega)
      have e : (gtsT K n o (G + 1)).length = (gtsT K n o G).length + (gtT (K G) (n G) (o G)).length := List.length_append
      omega
    · obtain rfl : g = G + 1 := by omega
      exact Nat.le_refl _
theorem ge_103 {B : Nat → Nat} {s K n : Nat} {o : Nat → Nat} (h : PC B s (gtT K n o)) : B s ≠ 32 := by
  unfold gtT at h
  have a := h.app.1.app.1.app.1
  have l11 : (wdS 11).length = 5 := by decide +kernel
  have e : (wdS 11).getD 0 0 = 103 := by decide +kernel
  have := a 0 (by omega)
  rw [Nat.add_zero, e] at this
  omega
theorem ot_111 {B : Nat → Nat} {s : Nat} {w : Nat → Nat} (h : PC B s (otT w)) : B s ≠ 32 := by
  have a := (ot_at h).1
  have e : (wdS 19).length = 6 ∧ (wdS 19).getD 0 0 = 111 := by decide +kernel
  have := a 0 (by omega)
  rw [Nat.add_zero, e.2] at this
  omega
theorem br_98 {B : Nat → Nat} {s k : Nat} (hk : k < 9) (h : PC B s (brT k)) : B s ≠ 32 := by
  have a := (br_at hk h).1
  have e : (wdS 4).length = 6 ∧ (wdS 4).getD 0 0 = 98 := by decide +kernel
  have := a 0 (by omega)
  rw [Nat.add_zero, e.2] at this
  omega
theorem x_min (L : Nat) (h : L ≤ 800) {a : Nat} (ha : L ≤ a) (h2 : a ≤ 800) : (if nI a < nI L then nI a else nI L) = nI L := by
  by_cases c : a < L
  · rw [ilt c (by omega), show a = L by omega]
  · rw [ilf c (by omega)]
set_option maxHeartbeats 1000000 in
theorem p_read {I G : Nat} (hI2 : 2 ≤ I) (hI3 : I ≤ 3) (hG3 : 3 ≤ G) (hG6 : G ≤ 6) {K n : Nat → Nat} {o : Nat → Nat → Nat} (hK : ∀ g, K g < 9) (hn1 : ∀ g, few (K g) ≤ n g) (hn2 : ∀ g, n g ≤ mst (K g)) (ho : ∀ g k, g < G → k < n g → o g k < I + g) {b : Bool} {kb : Nat} (hkb : kb < 2) {vD vC vT : Vs} {B : Nat → Nat} {L : Nat} (hL : vD.1 1 = nI L) (hLM : (cirT I G K n o b kb).length ≤ L) (hL8 : L ≤ 800) (hB : ∀ i, i < L → vD.2.1 3 i = nI (B i) ∧ B i < 256) (hP : PC B 0 (cirT I G K n o b kb)) :
    ∃ vD' vC' vT', f_X5_read vD vC vT (nI (cirT I G K n o b kb).length) = some (nI 0, vD', vC', vT') ∧ GR (cirQ I G K n o b kb) vC' vT' ∧ NW (cirQ I G K n o b kb) = I + G := by
  have hn4 : ∀ g, n g ≤ 4 := fun g => Nat.le_trans (hn2 g) (mst_4 _)
  have hrow := fun g h => rowG_at (I := I) (K := K) (n := n) (o := o) (by omega) hn4 g h
  have hlen : (cirT I G K n o b kb).length = 10 + (gtsT K n o G).length + 13 + (if b = true then (brT kb).length else 0) := by
    have e1 : (hdT I).length = 10 := by
      unfold hdT
      rw [List.length_append, List.length_append, show (wdS 8).length = 8 by decide +kernel, show (wdS 2).length = 1 by decide +kernel]
      rfl
    have e2 : ∀ w, (otT w).length = 13 := fun w => by
      unfold otT
      simp only [List.length_append, List.length_cons, List.length_nil, show (wdS 20).length = 7 by decide +kernel]
    unfold cirT
    rw [List.length_append, List.length_append, List.length_append, e1, e2]
    cases b <;> rfl
  obtain ⟨M, hM⟩ : ∃ M, M = (cirT I G K n o b kb).length := ⟨_, rfl⟩
  rw [← hM] at hLM hlen ⊢
  unfold cirT at hP
  have p1 := hP.app
  have p2 := p1.1.app
  have p3 := p2.1.app
  have e1 : (hdT I).length = 10 := by
    unfold hdT
    rw [List.length_append, List.length_append, show (wdS 8).length = 8 by decide +kernel, show (wdS 2).length = 1 by decide +kernel]
    rfl
  have e2 : (otT (outW (I + G))).length = 13 := by
    unfold otT
    simp only [List.length_append, List.length_cons, List.length_nil, show (wdS 20).length = 7 by decide +kernel]
  have pg := p3.2
  have po := p2.2
  have pb := p1.2
  rw [e1, Nat.zero_add] at pg
  rw [List.length_append, e1, Nat.zero_add] at po
  rw [List.length_append, List.length_append, e1, e2, Nat.zero_add] at pb
  obtain ⟨D, hD⟩ : ∃ D, D = (gtsT K n o G).length := ⟨_, rfl⟩
  rw [← hD] at po pb hlen
  have hbr : b = true → PC B (10 + D + 13) (brT kb) ∧ M = 10 + D + 13 + (brT kb).length ∧ (brT kb).length = 7 + wl (kwN kb) + 5 := fun hb => by
    rw [if_pos hb] at pb hlen
    refine ⟨pb, hlen, ?_⟩
    obtain ⟨kn1, kn2, -⟩ := kwN_nmS kb (by omega)
    unfold brT
    rw [List.length_append, List.length_append, kn1, wl_len kn2, show (wdS 5).length = 7 by decide +kernel, show (wdS 0).length = 5 by decide +kernel]
  have hnb : ¬ b = true → M = 10 + D + 13 := fun hb => by
    rw [if_neg hb] at hlen
    omega
  have hge : 10 + D + 13 ≤ M := by
    by_cases hb : b = true
    · have := (hbr hb).2.1; omega
    · have := hnb hb; omega
  have h0 := (gts_at pg (g := 0) (by omega))
  have hB10 : B 10 ≠ 32 := ge_103 h0
  -- reading
  suffices hfin : Ok (f_X5_read vD vC vT (nI M)) (fun r => r.1 = nI 0 ∧ GR (cirQ I G K n o b kb) r.2.2.1 r.2.2.2 ∧ NW (cirQ I G K n o b kb) = I + G) by
    obtain ⟨⟨a, x, y, z⟩, q1, q2, q3, q4⟩ := hfin
    exact ⟨x, y, z, by rw [q1, show a = nI 0 from q2], q3, q4⟩
  unfold f_X5_read
  refine ok_bn (ok_bn (ok_bn (ok_bn (ok_bn ?_))))
  rw [hL, x_min M (by omega) hLM hL8]
  obtain ⟨wD, hwD⟩ : ∃ z, z = sF (sF (sF (sF (sF vD 5 (nI M)) 1 (0 : Int32)) 6 (0 : Int32)) 4 (0 : Int32)) 2 (-1 : Int32) := ⟨_, rfl⟩
  rw [← hwD]
  have d5 : wD.1 5 = nI M := by rw [hwD, z_sF2 _ _ _ (by decide), z_sF2 _ _ _ (by decide), z_sF2 _ _ _ (by decide), z_sF2 _ _ _ (by decide), z_sF1]
  have d1 : wD.1 1 = nI 0 := by rw [hwD, z_sF2 _ _ _ (by decide), z_sF2 _ _ _ (by decide), z_sF2 _ _ _ (by decide), z_sF1]; rfl
  have d6 : wD.1 6 = nI 0 := by rw [hwD, z_sF2 _ _ _ (by decide), z_sF2 _ _ _ (by decide), z_sF1]; rfl
  have d4 : wD.1 4 = nI 0 := by rw [hwD, z_sF2 _ _ _ (by decide), z_sF1]; rfl
  have d2 : wD.1 2 = im1 := by rw [hwD, z_sF1]; rfl
  have da : wD.2 = vD.2 := by rw [hwD]; rfl
  have hDB : DB B M wD := ⟨d5, by omega, fun i hi => by rw [da]; exact hB i (by omega)⟩
  obtain ⟨vC1, vT1, ec, -, -⟩ := x_clear4 vC vT (i := 1) (by omega) (by omega)
  rw [show (1 : Int32) = nI 1 from rfl, ec, z_o2]
  obtain ⟨wE, eE, tE, e2E, ejE⟩ := x_advance hDB d6 (Nat.zero_le _)
  rw [eE, z_o1]
  have hB0 : rn isSp B M 0 = 0 := sp_0 (by
    have a := p3.1
    unfold hdT at a
    have a := a.app.1.app.1
    have e : (wdS 8).length = 8 ∧ (wdS 8).getD 0 0 = 99 := by decide +kernel
    have := a 0 (by omega)
    rw [Nat.add_zero, e.2] at this
    omega)
  rw [hB0] at tE
  have hCH : CH B M 0 wE := ⟨⟨by rw [ejE 5 (by decide) (by decide) (by decide) (by decide)]; exact d5, hDB.2.1, fun i hi => by rw [e2E]; exact hDB.2.2 i hi⟩, tE, by rw [ejE 4 (by decide) (by decide) (by decide) (by decide)]; exact d4, by rw [ejE 2 (by decide) (by decide) (by decide) (by decide)]; exact d2, by rw [ejE 1 (by decide) (by decide) (by decide) (by decide)]; exact d1⟩
  obtain ⟨wF, vC2, vT2, eF, hF, g2, z2⟩ := p_head hCH (I := I) (vC := vC1) (vT := vT1) (by omega) (by omega) p3.1 (by omega) hB10
  rw [eF, z_o4]
  refine zl5 (I := fun m x2 x3 u c t => ∃ st, x2 = nI 1 ∧ x3 = nI st ∧ (
      (st ≤ G ∧ CH B M (10 + (gtsT K n o st).length) u ∧ GR (rowG I K n o st) c t ∧ SN2 (rowG I K n o st) ∧ ZC (rowG I K n o st) c) ∨
      (st = G + 1 ∧ CH B M (10 + D + 13) u ∧ GR (outQ (rowG I K n o G) (outW (I + G)) 3) c t) ∨
      (st = G + 2 ∧ b = true ∧ CH B M M u ∧ GR (cirQ I G K n o b kb) c t)) ∧ m = G + 2 - st) ?_ FU (G + 2) _ _ _ _ _ (by unfold FU; omega) ⟨0, rfl, rfl, Or.inl ⟨by omega, hF, g2, SN2_P1 I, z2⟩, by omega⟩
  rintro m x2 x3 u c t self ⟨st, rfl, rfl, hst, rfl⟩ ih
  unfold f_X5_read_L51
  have hst2 : st ≤ G + 2 := by rcases hst with h | h | h <;> omega
  refine ok_jn ?_
  rw [z_l800, iff_ (show ¬ 800 ≤ st by omega) (by omega), if_neg (show ¬ nI 1 = (0 : Int32) by decide)]
  -- the row's head numbers
  have hO : NO (outQ (rowG I K n o G) (outW (I + G)) 3) = 3 ∧ NW (outQ (rowG I K n o G) (outW (I + G)) 3) = I + G ∧ NB (outQ (rowG I K n o G) (outW (I + G)) 3) = 0 ∧ NI (outQ (rowG I K n o G) (outW (I + G)) 3) = I := by
    obtain ⟨r1, r2, r3, r4, r5⟩ := hrow G hG6
    have hq : ∀ c, c < 150 → c ≠ 2 → outQ (rowG I K n o G) (outW (I + G)) 3 c = rowG I K n o G c := fun c h1 h2 => by
      show upd (upd (upd (upd (upd (upd (rowG I K n o G) (152 + 0) _) 2 _) (152 + 1) _) 2 _) (152 + 2) _) 2 _ c = _
      rw [z_u2 _ _ h2, z_u2 _ _ (by omega), z_u2 _ _ h2, z_u2 _ _ (by omega), z_u2 _ _ h2, z_u2 _ _ (by omega)]
    refine ⟨?_, ?_, ?_, ?_⟩
    · show nn (upd _ 2 (nI (2 + 1)) 2) = 3
      rw [z_u1 _ _ rfl, nn_nI (by omega)]
    · show nn (outQ _ _ 3 1) = _
      rw [hq 1 (by omega) (by omega)]
      exact r2
    · show nn (outQ _ _ 3 3) = _
      rw [hq 3 (by omega) (by omega)]
      exact r4
    · show nn (outQ _ _ 3 0) = _
      rw [hq 0 (by omega) (by omega)]
      exact r1
  have hNWc : NW (cirQ I G K n o b kb) = I + G := by
    unfold cirQ
    by_cases hb : b = true
    · rw [if_pos hb]
      show nn (brQ _ kb 0 1 1) = _
      unfold brQ
      rw [hO.2.2.1, z_u2 _ _ (by omega), z_u2 _ _ (by omega), z_u2 _ _ (by omega), z_u2 _ _ (by omega)]
      exact hO.2.1
    · rw [if_neg hb]
      exact hO.2.1
  have hstop : ∀ p, CH B M p u → p = M → GR (cirQ I G K n o b kb) c t → Ok (if u.1 7 = 0 then some (u.1 4, u, c, t) else o4 (f_X5_readStatement u c t) (fun (r34 : Int32) (vD_35 : Vs) (vC_36 : Vs) (vT_37 : Vs) => self r34 (nI st + (1 : Int32)) vD_35 vC_36 vT_37)) (fun r => r.1 = nI 0 ∧ GR (cirQ I G K n o b kb) r.2.2.1 r.2.2.2 ∧ NW (cirQ I G K n o b kb) = I + G) := fun p hp hpM hgr => by
    obtain ⟨-, ⟨t8, t7, -⟩, h4, -⟩ := hp
    have : tkind B M p = 0 := tk0.mpr (by omega)
    rw [this] at t7
    rw [t7, if_pos (show nI 0 = (0 : Int32) from rfl), h4]
    exact ok_some ⟨rfl, hgr, hNWc⟩
  have hgo : ∀ p, CH B M p u → p < M → ¬ u.1 7 = 0 := fun p hp hpM => by
    obtain ⟨-, ⟨t8, t7, -⟩, -⟩ := hp
    have h1 : tkind B M p ≠ 0 := fun z => (tk0.mp z) hpM
    have h2 : tkind B M p ≤ 4 := by unfold tkind; (repeat' split) <;> omega
    rw [t7, z_l0, z_eq (by omega) (by omega)]
    exact h1
  rcases hst with ⟨hs, hc, hgr, hsn, hz⟩ | ⟨rfl, hc, hgr⟩ | ⟨rfl, hb, hc, hgr⟩
  · have hmono := gts_mono K n o G st hs
    rw [if_neg (hgo _ hc (by omega))]
    rcases Nat.lt_or_ge st G with hlt | hgeG
    · obtain ⟨r1, r2, r3, r4, r5⟩ := hrow st (by omega)
      have pst := gts_at pg hlt
      have els : (gtsT K n o (st + 1)).length = (gtsT K n o st).length + (gtT (K st) (n st) (o st)).length := List.length_append
      have hm1 := gts_mono K n o G (st + 1) (by omega)
      have hnx : B (10 + (gtsT K n o st).length + (gtT (K st) (n st) (o st)).length) ≠ 32 := by
        rw [show 10 + (gtsT K n o st).length + (gtT (K st) (n st) (o st)).length = 10 + (gtsT K n o (st + 1)).length by omega]
        rcases Nat.lt_or_ge (st + 1) G with h | h
        · exact ge_103 (gts_at pg h)
        · have : st + 1 = G := by omega
          rw [this, ← hD]
          exact ot_111 po
      obtain ⟨u', c', eu, hu, gg, ss, zz⟩ := p_gate hgr (by omega) hsn hz hc (hK st) (hn1 st) (hn2 st) (fun k hk => ⟨by have := ho st k hlt hk; omega, by have := ho st k hlt hk; omega⟩) pst (by omega) hnx
      rw [eu, z_o4, z_l1, nI_add]
      refine ih _ _ _ _ _ _ (by omega) ⟨st + 1, rfl, rfl, Or.inl ⟨by omega, ?_, gg, ss, zz⟩, rfl⟩
      rw [els, ← Nat.add_assoc]
      exact hu
    · obtain rfl : st = G := by omega
      obtain ⟨r1, r2, r3, r4, r5⟩ := hrow st (by omega)
      rw [← hD] at hc
      have hsp13 : rn isSp B M (10 + D + 13) = 10 + D + 13 := by
        by_cases hb : b = true
        · exact sp_0 (br_98 (by omega) (hbr hb).1)
        · rw [← hnb hb]
          exact sp_M
      obtain ⟨u', c', eu, hu, gg⟩ := p_out hgr hsn r3 hc (w := outW (I + st)) (fun k hk => by unfold outW; omega) (fun j k h1 h2 => by unfold outW; omega) po hge hsp13
      rw [eu, z_o4, z_l1, nI_add]
      exact ih _ _ _ _ _ _ (by omega) ⟨st + 1, rfl, rfl, Or.inr (Or.inl ⟨rfl, hu, gg⟩), rfl⟩
  · by_cases hb : b = true
    · obtain ⟨pb, hMb, hbl⟩ := hbr hb
      rw [if_neg (hgo _ hc (by omega))]
      have eM : 10 + D + 13 + 7 + wl (kwN kb) + 5 = M := by omega
      obtain ⟨u', c', eu, hu, gg⟩ := p_bridge hgr hO.2.2.1 (by omega) hc hkb pb (by omega) (by rw [eM]; exact sp_M)
      rw [eu, z_o4, z_l1, nI_add]
      rw [eM] at hu
      refine ih _ _ _ _ _ _ (by omega) ⟨G + 1 + 1, rfl, rfl, Or.inr (Or.inr ⟨rfl, hb, hu, ?_⟩), rfl⟩
      unfold cirQ
      rw [if_pos hb]
      exact gg
    · refine hstop _ hc (hnb hb).symm ?_
      unfold cirQ
      rw [if_neg hb]
      exact hgr
  · exact hstop _ hc rfl hgr
