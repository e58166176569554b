/-! a text is handed over and loaded -/
def BT (T : List Nat) (j : Nat) : Nat := if j < T.length then T.getD j 0 else 32
def pk (f : Nat → Nat) : Nat → Int32
  | 0 => 0
  | m + 1 => (pk f m <<< ((8 : Int32) &&& 31)) ||| nI (f m)
theorem tb_128 {c n : Nat} (hc : c < 256) (h : 8 ≤ n) : c.testBit n = false := Nat.testBit_lt_two_pow (Nat.lt_of_lt_of_le hc (Nat.pow_le_pow_right (n := 2) (by omega) h))
theorem pk_bit {f : Nat → Nat} (hf : ∀ m, f m < 256) : ∀ m, m ≤ 4 → ∀ i, i < m → ∀ j, j < 8 → bI (pk f m) (8 * (m - 1 - i) + j) = bI (nI (f i)) j
  | 0, _, i, hi, j, hj => by omega
  | m + 1, h4, i, hi, j, hj => by
    show bI ((pk f m <<< (nI 8 &&& 31)) ||| nI (f m)) (8 * (m + 1 - 1 - i) + j) = _
    rw [bI_or, bI_shl _ (by omega)]
    rcases Nat.lt_or_ge i m with q | q
    · have e : 8 * (m + 1 - 1 - i) + j - 8 = 8 * (m - 1 - i) + j := by omega
      have h8 : ¬ 8 * (m + 1 - 1 - i) + j < 8 := by omega
      have h32 : 8 * (m + 1 - 1 - i) + j < 32 := by omega
      rw [e, pk_bit hf m (by omega) i q j hj, bI_nI (f m), tb_128 (hf m) (by omega)]
      simp [h8, h32]
      intro _
      omega
    · obtain rfl : i = m := by omega
      have e : 8 * (i + 1 - 1 - i) + j = j := by omega
      rw [e]
      simp [hj]
theorem byt_pk {f : Nat → Nat} (hf : ∀ m, f m < 256) {i : Nat} (hi : i < 4) : byt (pk f 4) i = nI (f i) := bI_ext (fun j hj => by
  unfold byt
  rw [bI_and, b255 j hj, bI_ius _ (by omega)]
  by_cases c : j < 8
  · have := pk_bit hf 4 (by omega) i hi j c
    rw [show 24 - 8 * i + j = 8 * (4 - 1 - i) + j by omega, this]
    simp [c]
  · rw [bI_nI, tb_128 (hf i) (by omega)]
    simp [c])
theorem x_app {vF v : Vs} {L : Nat} (hL : v.1 1 = nI L) (h8 : L + 20 ≤ 800) (w : Nat → Int32) : ∃ v', f_X7_append vF v (w 0) (w 1) (w 2) (w 3) (w 4) = some (nI (L + 20), v') ∧ v'.1 1 = nI (L + 20) ∧ (∀ i, i < 20 → v'.2.1 3 (L + i) = byt (w (i / 4)) (i % 4)) ∧ ∀ i, i < L → v'.2.1 3 i = v.2.1 3 i := by
  obtain ⟨v1, e1, a1, -, -, b1, c1⟩ := x_four hL (by omega) (w 0)
  obtain ⟨v2, e2, a2, -, -, b2, c2⟩ := x_four a1 (by omega) (w 1)
  obtain ⟨v3, e3, a3, -, -, b3, c3⟩ := x_four a2 (by omega) (w 2)
  obtain ⟨v4, e4, a4, -, -, b4, c4⟩ := x_four a3 (by omega) (w 3)
  obtain ⟨v5, e5, a5, -, -, b5, c5⟩ := x_four a4 (by omega) (w 4)
  refine ⟨v5, ?_, a5, fun i hi => ?_, fun i hi => ?_⟩
  · unfold f_X7_append
    rw [hL, show (20 : Int32) = nI 20 from rfl, nI_add, z_l800, ift h8 (by omega), e1, z_o1, e2, z_o1, e3, z_o1, e4, z_o1, e5, z_o1, a5]
  · have hj : i / 4 = 0 ∨ i / 4 = 1 ∨ i / 4 = 2 ∨ i / 4 = 3 ∨ i / 4 = 4 := by omega
    have hm : i % 4 < 4 := by omega
    rcases hj with q | q | q | q | q <;> rw [q]
    · rw [c5 _ (by omega), c4 _ (by omega), c3 _ (by omega), c2 _ (by omega), ← b1 _ hm]
      exact congrArg (v1.2.1 3) (by omega)
    · rw [c5 _ (by omega), c4 _ (by omega), c3 _ (by omega), ← b2 _ hm]
      exact congrArg (v2.2.1 3) (by omega)
    · rw [c5 _ (by omega), c4 _ (by omega), ← b3 _ hm]
      exact congrArg (v3.2.1 3) (by omega)
    · rw [c5 _ (by omega), ← b4 _ hm]
      exact congrArg (v4.2.1 3) (by omega)
    · rw [← b5 _ hm]
      exact congrArg (v5.2.1 3) (by omega)
  · rw [c5 _ (by omega), c4 _ (by omega), c3 _ (by omega), c2 _ (by omega), c1 _ hi]
def HQ (h : Hv) : Prop := ∃ u x, h.1.1 0 = nI u ∧ u ≤ 8 ∧ h.1.1 1 = nI x ∧ x < 8
theorem HQ.push {r : Nat → Int32} {vC vT : Vs} (hg : GR r vC vT) {h : Hv} (hh : HQ h) : ∃ h', f_X1_push vC vT h = some h' ∧ HQ h' := by
  obtain ⟨u, x, h0, hu, h1, hx⟩ := hh
  obtain ⟨h', c, t, e, -, a, b, -, -⟩ := x_push hg h0 hu h1 hx
  exact ⟨h', e, _, _, a, by split <;> omega, b, by omega⟩
theorem HQ_0 : HQ hV0 := ⟨0, 0, rfl, by omega, rfl, by omega⟩
theorem GR_0 : GR (P1 1) cV1 zV := by
  have hcl : f_X0_clear zV 1 = some cV1 := (Option.some_get cl_some).symm
  obtain ⟨w', e2, hC, -⟩ := x_clearC zV (i := 1) (by omega) (by omega)
  have e2 : f_X0_clear zV 1 = some w' := e2
  have ee2 : w' = cV1 := Option.some.inj (e2.symm.trans hcl)
  rw [ee2] at hC
  exact ⟨P1_WFc (by omega) (by omega), P1_WFt (by omega), hC, RT_0 (by omega) rfl (fun _ _ => ⟨rfl, rfl⟩)⟩
theorem GR.copy {r : Nat → Int32} {vC vT : Vs} (hG : GR r vC vT) (wC wT : Vs) : ∃ vC' vT', f_X4_copyFrom wC wT vC vT = some (vC', vT') ∧ GR r vC' vT' := by
  obtain ⟨g1, g2, g3, g4⟩ := hG
  obtain ⟨c, ec, hc⟩ := x_copyC (vC := wC) g1 g3
  obtain ⟨t, et, hT⟩ := x_copyT (vT := wT) g2 g4
  refine ⟨c, t, ?_, g1, g2, hc, hT⟩
  unfold f_X4_copyFrom
  rw [ec, z_o1, et, z_o1]
theorem l_load {q q0 : Nat → Int32} {vF vC vT vD vE vU : Vs} {vH : Hv} (hG : GR q0 vC vT) (hH : HQ vH) {L M : Nat} (hL : vD.1 1 = nI L) (hM : M ≤ L) (h8 : L ≤ 800) {vD' vE' vU' : Vs} (hr : f_X5_read vD vE vU (nI M) = some (nI 0, vD', vE', vU')) (hq : GR q vE' vU') :
    ∃ vF' vC' vT' vH', f_X7_load vF vC vT vD vE vU vH (nI M) = some (0, nI (NW q), vF', vC', vT', vD', vE', vU', vH') ∧ GR q vC' vT' ∧ HQ vH' ∧ vF'.1 5 = nI 0 ∧ vF'.1 6 = nI 0 ∧ vF'.2 = vF.2 := by
  obtain ⟨h', eh, hh'⟩ := HQ.push hG hH
  obtain ⟨vC', vT', ec, hg⟩ := GR.copy hq vC vT
  refine ⟨sF (sF vF 5 (nI 0)) 6 (nI 0), vC', vT', h', ?_, hg, hh', ?_, z_sF1 _ _ _, rfl⟩
  · unfold f_X7_load
    rw [z_jn, if_neg (nI_pos (by omega)), hL, ift hM (by omega), hr, z_o4, if_pos (show nI 0 = (0 : Int32) from rfl), eh, z_o1, ec, z_o2, hg.2.2.1.1.2.1]
    rfl
  · rw [z_sF2 _ _ _ (by decide), z_sF1]
theorem l_read {q : Nat → Int32} {T : List Nat} {vZ vY : Vs} (hz : ZS vZ vY T) (hrd : ∀ vD L, vD.1 1 = nI L → T.length ≤ L → L ≤ 800 → (∀ i, i < L → vD.2.1 3 i = nI (BT T i) ∧ BT T i < 256) → ∃ vD' vE' vU', f_X5_read vD cV1 zV (nI T.length) = some (nI 0, vD', vE', vU') ∧ GR q vE' vU') :
    Ok (f_L_read zV cV1 zV (sF zV 2 (-1)) cV1 zV hV0 vZ vY) (fun r => r.1 = nI (NW q) ∧ GR q r.2.2.1 r.2.2.2.1 ∧ HQ r.2.2.2.2.2.2.2 ∧ r.2.1.1 5 = nI 0 ∧ r.2.1.1 6 = nI 0 ∧ r.2.1.2 = zV.2) := by
  have hlen := hz.len
  have h190 : T.length ≤ 190 := hz.2.2.1
  have hBT : ∀ i, BT T i < 256 := fun i => by
    unfold BT
    have := hz.2.2.2.2.2 i
    split <;> omega
  have h5 : (5 : Int32).toNatClampNeg = 5 := by decide
  unfold f_L_read
  refine zl4 (I := fun m x v kc ks => ∃ c, x = nI (20 * c) ∧ c ≤ 10 ∧ v.1 1 = nI (20 * c) ∧ (∀ j, j < 20 * c → v.2.1 3 j = nI (BT T j)) ∧ kc ≤ c ∧ ks ≤ 5 * c ∧ m = 10 - c) ?_ FU 10 _ _ _ _ (by unfold FU; omega) ⟨0, rfl, by omega, rfl, fun j hj => by omega, by omega, by omega, by omega⟩
  rintro m x v kc ks self ⟨c, rfl, hc, hv1, hv, hkc, hks, rfl⟩ ih
  unfold f_L_read_L2
  refine ok_gd (decide_eq_true ⟨by omega, by omega⟩) (ok_o1e hlen ?_)
  by_cases hb : T.length ≤ 20 * c
  · rw [ift hb (by omega)]
    obtain ⟨vD', vE', vU', er, hq⟩ := hrd v (20 * c) hv1 hb (by omega) (fun i hi => ⟨hv i hi, hBT i⟩)
    obtain ⟨vF', vC', vT', vH', el, a1, a2, a3, a4, a5⟩ := l_load (vF := zV) GR_0 HQ_0 hv1 hb (by omega) er hq
    refine ok_gd (decide_eq_true ⟨by omega, by omega⟩) (ok_o1e hlen (ok_gd (decide_eq_true ⟨by omega, by omega⟩) ?_))
    rw [el, z_o9, if_pos rfl]
    exact ok_gd (decide_eq_true ⟨by omega, by omega⟩) (ok_some ⟨rfl, a1, a2, a3, a4, a5⟩)
  · rw [iff_ hb (by omega)]
    refine ok_gd (decide_eq_true ⟨by decide, by decide, by omega, by omega⟩) (ok_bn ?_)
    refine zl2 (I := fun m x w => ∃ k, x = nI k ∧ k ≤ 20 ∧ w.1 9 = nI 5 ∧ (∀ j, j < 5 → w.2.1 0 j = pk (fun m => BT T (20 * c + 4 * j + m)) (min 4 (k - 4 * j))) ∧ m = 20 - k) ?_ FU 20 _ _ (by unfold FU; omega) ⟨0, rfl, by omega, rfl, fun j hj => by rw [show min 4 (0 - 4 * j) = 0 by omega]; rfl, by omega⟩
    rintro m x w self2 ⟨k, rfl, hk, hw9, hw, rfl⟩ ih2
    unfold f_L_read_L17
    rw [hw9]
    by_cases hb2 : 20 ≤ k
    · obtain rfl : k = 20 := by omega
      rw [if_pos (show (20 : Int32) ≤ nI 20 by decide)]
      refine ok_gd (by decide) (ok_gd (by decide) (ok_gd (by decide) (ok_gd (by decide) (ok_gd (by decide) (ok_gd (decide_eq_true ⟨by omega, by omega⟩) ?_)))))
      obtain ⟨v', e, a1, a2, a3⟩ := x_app (vF := zV) hv1 (by omega) (w.2.1 0)
      have e : f_X7_append zV v (w.2.1 0 ((0 : Int32)).toNatClampNeg) (w.2.1 0 ((1 : Int32)).toNatClampNeg) (w.2.1 0 ((2 : Int32)).toNatClampNeg) (w.2.1 0 ((3 : Int32)).toNatClampNeg) (w.2.1 0 ((4 : Int32)).toNatClampNeg) = some (nI (20 * c + 20), v') := e
      rw [e, z_o2, if_pos (show (0 : Int32) ≤ nI (20 * c + 20) from nI_le (Nat.zero_le _) (by omega)), show (20 : Int32) = nI 20 from rfl, nI_add]
      refine ih _ _ _ _ _ (by omega) ⟨c + 1, by rw [show 20 * (c + 1) = 20 * c + 20 by omega], by omega, by rw [show 20 * (c + 1) = 20 * c + 20 by omega]; exact a1, fun j hj => ?_, by omega, by omega, rfl⟩
      rcases Nat.lt_or_ge j (20 * c) with z | z
      · rw [a3 j z]
        exact hv j z
      · obtain ⟨i, rfl⟩ : ∃ i, j = 20 * c + i := ⟨j - 20 * c, by omega⟩
        rw [a2 i (by omega), hw (i / 4) (by omega), show min 4 (20 - 4 * (i / 4)) = 4 by omega, byt_pk (fun m => hBT _) (by omega)]
        congr 2; omega
    · rw [if_neg (show ¬ (20 : Int32) ≤ nI k from nI_ge (a := k) (b := 20) (by omega) (by decide))]
      have e4 : nI k / (4 : Int32) = nI (k / 4) := by rw [show (4 : Int32) = nI 4 from rfl, z_div (by omega) (by omega)]
      rw [e4]
      have hin : inb (nI (k / 4)) (nI 5).toNatClampNeg = true := z_inb (by rw [z_cl (by omega)]; omega) (by rw [z_cl (by omega)]; omega)
      refine ok_gd (by decide) (ok_gd (by decide) (ok_gd hin (ok_gd (decide_eq_true ⟨by omega, by omega⟩) (ok_o1e hlen ?_))))
      refine ok_j1 (fun t => t = nI (BT T (20 * c + k))) (fun t ht => ?_) (fun k75 hk75 => ?_)
      · subst ht
        refine ok_gd hin (ok_bn ?_)
        rw [z_cl (by omega), hw (k / 4) (by omega), z_l1, nI_add]
        refine ih2 _ _ _ (by omega) ⟨k + 1, rfl, by omega, hw9, fun j hj => ?_, rfl⟩
        rw [z_sI2]
        by_cases q : j = k / 4
        · subst q
          rw [z_u1 _ _ rfl, show min 4 (k + 1 - 4 * (k / 4)) = min 4 (k - 4 * (k / 4)) + 1 by omega]
          show (_ ||| nI (BT T (20 * c + k))) = (_ ||| nI (BT T (20 * c + 4 * (k / 4) + min 4 (k - 4 * (k / 4)))))
          rw [show 20 * c + 4 * (k / 4) + min 4 (k - 4 * (k / 4)) = 20 * c + k by omega]
        · rw [z_u2 _ _ q, hw j hj, show min 4 (k + 1 - 4 * j) = min 4 (k - 4 * j) by omega]
      · rw [nI_add]
        by_cases q : T.length ≤ 20 * c + k
        · rw [ift q (by omega)]
          refine hk75 _ ?_
          unfold BT
          rw [if_neg (by omega)]
          rfl
        · rw [iff_ q (by omega)]
          refine ok_gd (decide_eq_true ⟨by omega, by omega⟩) (ok_o1e (hz.at (k := 20 * c + k) (by omega)) (hk75 _ ?_))
          unfold BT
          rw [if_pos (by omega)]
