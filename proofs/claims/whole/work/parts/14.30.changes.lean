/-! see, forget, setKind -/
theorem TR.of {r s : Nat → Int32} (hw : WFc r) (ht : WFt r) (h : ∀ k, k < 310 → s k = r k) {vR vG : Vs} (hT : TR r vR vG) : TR s vR vG := by
  have hn := hw.nf
  have h16 := ht.1.2
  have hl : ∀ k, k < 182 → k ≠ 4 → s k = r k := fun k hk _ => h k (by omega)
  have e1 : NW s = NW r := by show nn (s 1) = nn (r 1); rw [h 1 (by omega)]
  have e2 : NO s = NO r := by show nn (s 2) = nn (r 2); rw [h 2 (by omega)]
  have e3 : NB s = NB r := by show nn (s 3) = nn (r 3); rw [h 3 (by omega)]
  have e4 : NT s = NT r := by show nn (s 4) = nn (r 4); rw [h 4 (by omega)]
  have eq : ∀ l i, i < NI r → tq s l i = tq r l i := fun l i hi => by
    unfold tq
    rw [e4]
    by_cases q : l < NT r
    · rw [if_pos q, if_pos q]
      show nn (s _) = nn (r _)
      rw [h _ (by omega)]
    · rw [if_neg q, if_neg q]
  obtain ⟨a, b⟩ := hT
  refine ⟨fun p hp o ho => ?_, fun w hw2 => ?_⟩
  · rw [e2] at ho
    have hp' : p ≤ NF r := by
      have : NF s = NF r := by show 2 * NW s + NB s = 2 * NW r + NB r; rw [e1, e3]
      omega
    have eo : ou s o = ou r o := by show nn (s (152 + o)) = nn (r (152 + o)); rw [h _ (by omega)]
    have how := (hw.2.2.2.2.2.2.2.1 o ho).2
    refine (a p hp' o ho).cong (fun l _ => ?_)
    rw [eo, (bits_of hw hl (tq s l)).2 p hp' _ how]
    exact (bad_ask hw (eq l) hp' (ou r o + 1) _ (by omega) how).symm
  · rw [e1] at hw2
    refine (b w hw2).cong (fun l _ => ?_)
    rw [(bits_of hw hl (tq s l)).1 _ hw2]
    exact (good_ask hw (eq l) (w + 1) _ (by omega) hw2).symm
theorem FI.seen {r s : Nat → Int32} (hw : WFc r) (ht : WFt r) (h : ∀ k, k < 310 → s k = r k) {vF vRT vG vRF : Vs} (hF : FI r vF vRT vG vRF) : FI s vF vRT vG vRF := ⟨fun q => (hF.1 q).of hw ht h, fun q => (hF.2.1 q).of hw (fun k hk _ => h k (by omega)), hF.2.2⟩
theorem q_forget {vM vF vC vT vRT vG vRF vD : Vs} {vH : Hv} (hI : INV vM vF vC vT vRT vG vRF vD vH) :
    ∃ x vT' vH' vM', f_X7_forget vF vC vT vH = some (x, vT', vH') ∧ f_X8_forget vM = some (x, vM') ∧ INV vM' vF vC vT' vRT vG vRF vD vH' := by
  obtain ⟨n, hn3, hn9, hG, hF, hH, hX⟩ := id hI
  obtain ⟨hw, ht, hC, hT⟩ := id hG
  have hn := hw.nf
  have h16 := ht.1.2
  obtain ⟨v1, h1, e1, e2, m1, k1, k2, hHX⟩ := q_change (v := sF vM 0 (nI 0)) hn3 hn9 hG (hH.qm (QM.th _ _))
  have m1 : MS v1 ((n + 1) % 9) (rwv vM n) := m1
  have eS := h_seenMany m1 hw ht
  have kX : ∃ v', f_X6_clearSeen vT = some v' ∧ v'.1 = vT.1 ∧ v'.2.1 1 = vT.2.1 1 ∧ v'.2.1 2 = vT.2.1 2 ∧ ∀ o, o < 6 → v'.2.1 3 o = nI 0 ∧ v'.2.1 4 o = nI 0 := by
    show Ok (f_X6_clearSeen vT) (fun v' => v'.1 = vT.1 ∧ v'.2.1 1 = vT.2.1 1 ∧ v'.2.1 2 = vT.2.1 2 ∧ ∀ o, o < 6 → v'.2.1 3 o = nI 0 ∧ v'.2.1 4 o = nI 0)
    unfold f_X6_clearSeen
    refine zl2 (I := fun m x v' => ∃ o, x = nI o ∧ o ≤ 6 ∧ m = 6 - o ∧ v'.1 = vT.1 ∧ v'.2.1 1 = vT.2.1 1 ∧ v'.2.1 2 = vT.2.1 2 ∧ ∀ u, u < o → v'.2.1 3 u = nI 0 ∧ v'.2.1 4 u = nI 0) ?_ FU 6 _ _ (by unfold FU; omega) ⟨0, rfl, by omega, by omega, rfl, rfl, rfl, fun u hu => by omega⟩
    rintro m x v' self ⟨o, rfl, hle, rfl, f1, f2, f3, hz⟩ ih
    unfold f_X6_clearSeen_L2
    rw [z_l6]
    by_cases hb : 6 ≤ o
    · rw [ift hb (by omega)]
      exact ok_some ⟨f1, f2, f3, fun u hu => hz u (by omega)⟩
    · rw [iff_ hb (by omega)]
      refine ok_gd (z_inb (by omega) (by omega)) ?_
      refine ok_bn ?_
      refine ok_gd (z_inb (by omega) (by omega)) ?_
      refine ok_bn ?_
      rw [z_cl (by omega), z_l1, nI_add]
      refine ih _ _ _ (by omega) ⟨o + 1, rfl, by omega, rfl, f1, ?_, ?_, fun u hu => ?_⟩
      · rw [z_sI3 _ _ _ _ (by decide), z_sI3 _ _ _ _ (by decide), f2]
      · rw [z_sI3 _ _ _ _ (by decide), z_sI3 _ _ _ _ (by decide), f3]
      · rw [z_sI3 _ _ _ _ (by decide), z_sI2, z_sI2, z_sI3 _ _ _ _ (by decide)]
        by_cases e : u = o
        · rw [z_u1 _ _ e, z_u1 _ _ e]
          exact ⟨rfl, rfl⟩
        · rw [z_u2 _ _ e, z_u2 _ _ e]
          exact hz u (by omega)
  obtain ⟨vT', eT, t1, t2, t3, t4⟩ := kX
  have kM : ∃ v', lp (f_X8_forget_L16 (nI (SNM (rwv vM n)))) (fun _ _ => none) FU (nI 0) v1 = some (nI (SNM (rwv vM n)), v') ∧ ∃ s, MS v' ((n + 1) % 9) s ∧ KR ((n + 1) % 9) v1 v' ∧ (∀ k, k < 310 → s k = rwv vM n k) ∧ ∀ k, k < 96 → s (310 + k) = nI 2 := by
    have : Ok (lp (f_X8_forget_L16 (nI (SNM (rwv vM n)))) (fun _ _ => none) FU (nI 0) v1) (fun q => q.1 = nI (SNM (rwv vM n)) ∧ ∃ s, MS q.2 ((n + 1) % 9) s ∧ KR ((n + 1) % 9) v1 q.2 ∧ (∀ k, k < 310 → s k = rwv vM n k) ∧ ∀ k, k < 96 → s (310 + k) = nI 2) := by
      refine zl2 (I := fun m x v' => ∃ k s, x = nI k ∧ k ≤ 96 ∧ m = 96 - k ∧ MS v' ((n + 1) % 9) s ∧ KR ((n + 1) % 9) v1 v' ∧ (∀ j, j < 310 → s j = rwv vM n j) ∧ ∀ j, j < k → s (310 + j) = nI 2) ?_ FU 96 _ _ (by unfold FU; omega) ⟨0, _, rfl, by omega, by omega, m1, KR.rf _ _, fun _ _ => rfl, fun j hj => by omega⟩
      rintro m x v' self ⟨k, s, rfl, hle, rfl, hm, hK, hs, hz⟩ ih
      unfold f_X8_forget_L16
      rw [z_l96]
      by_cases hb : 96 ≤ k
      · rw [ift hb (by omega)]
        exact ok_some ⟨rfl, s, hm, hK, hs, fun j hj => hz j (by omega)⟩
      · rw [iff_ hb (by omega)]
        obtain ⟨v3, e3, m3, K3⟩ := h_put hm (k := 310 + k) (by omega) (2 : Int32)
        rw [z_l310, nI_add, z_l1, nI_add]
        refine ok_o1e e3 ?_
        refine ih _ _ _ (by omega) ⟨k + 1, _, rfl, by omega, rfl, m3, hK.tr K3, fun j hj => ?_, fun j hj => ?_⟩
        · rw [z_u2 _ _ (by omega)]; exact hs j hj
        · by_cases e : j = k
          · rw [z_u1 _ _ (by omega)]
            rfl
          · rw [z_u2 _ _ (by omega)]; exact hz j (by omega)
    obtain ⟨⟨x, v'⟩, e, hx, q⟩ := this
    have hx' : x = nI (SNM (rwv vM n)) := hx
    rw [hx'] at e
    exact ⟨v', e, q⟩
  obtain ⟨v2, e3, s, m2, K2, hs, hz⟩ := kM
  have hr3 : ∀ k, k < 310 → rwv v2 ((n + 1) % 9) k = rwv vM n k := fun k hk => by rw [m2.rw (by omega), hs k hk]
  have hrz : ∀ k, k < 96 → rwv v2 ((n + 1) % 9) (310 + k) = nI 2 := fun k hk => by rw [m2.rw (by omega), hz k hk]
  have hlow : ∀ k, k < 182 → k ≠ 4 → rwv v2 ((n + 1) % 9) k = rwv vM n k := fun k hk _ => hr3 k (by omega)
  obtain ⟨S, hSd⟩ : ∃ S, S = rwv v2 ((n + 1) % 9) := ⟨_, rfl⟩
  rw [← hSd] at hr3 hrz hlow
  have e0 : NI S = NI (rwv vM n) := by show nn (S 0) = _; rw [hr3 0 (by omega)]
  have eO : NO S = NO (rwv vM n) := by show nn (S 2) = _; rw [hr3 2 (by omega)]
  have e4 : NT S = NT (rwv vM n) := by show nn (S 4) = _; rw [hr3 4 (by omega)]
  have esn : ∀ t o, t < 16 → o < 6 → sn S t o = 2 := fun t o h1 h2 => by
    show nn (S (310 + 6 * t + o)) = 2
    rw [show 310 + 6 * t + o = 310 + (6 * t + o) by omega, hrz _ (by omega)]
    rfl
  have hwS : WFc S := hw.of hlow
  have htS : WFt S := by
    unfold WFt
    rw [e0, e4, hr3 4 (by omega)]
    refine ⟨ht.1, fun t i h1 h2 => ?_, fun t o h1 h2 => ?_⟩
    · have e := hr3 (182 + 8 * t + i) (by omega)
      have e9 : tv S t i = tv (rwv vM n) t i := by show nn _ = nn _; rw [e]
      rw [e, e9]
      exact ht.2.1 t i h1 h2
    · rw [esn t o (by omega) h2]
      refine ⟨?_, by omega⟩
      rw [show 310 + 6 * t + o = 310 + (6 * t + o) by omega]
      exact hrz _ (by omega)
  have hTS : RT S vT' := by
    unfold RT
    rw [e0, e4, eO, t1, t2, t3]
    refine ⟨hT.1, fun t i h1 h2 => ?_, fun o t h1 h2 => ?_⟩
    · have e9 : tv S t i = tv (rwv vM n) t i := by show nn _ = nn _; rw [hr3 _ (by omega)]
      rw [e9]
      exact hT.2.1 t i h1 h2
    · rw [(t4 o h1).1, (t4 o h1).2, bI_0]
      by_cases c : t < NT (rwv vM n)
      · rw [esn t o (by omega) h1]
        simp
      · simp [c]
  refine ⟨nI (SNM (rwv vM n)), vT', h1, v2, ?_, ?_, ⟨(n + 1) % 9, m2.1, m2.2.1, ?_, ?_, hHX v2 K2, hX.same ?_ ?_ ?_⟩⟩
  · unfold f_X7_forget
    simp (disch := omega) only [z_gt, z_o1, z_o2, z_o3, z_o4, z_o5, z_o6, z_o7, z_o8, z_o9, z_bn, z_jn, nI_add, z_mul, z_sub, z_div, Nat.not_lt_zero, z_cl, z_le, z_lt, z_eq, z_inb, z_nz, z_isB0, z_notJ, z_notI, z_isB1, z_m1, z_pos, z_pos', z_nlt, z_nle', z_m1le, z_m1a, z_nle, z_sI0, z_sI1, z_sI2, z_sI3, z_sJ0, z_sJ1, z_sJ2, z_sJ3, z_sF0, z_sF1, z_sF2, z_sA0, z_sA1, z_sA2, z_sA3, z_sAA, z_sIA, ↓reduceIte, Nat.reduceEqDiff, Nat.reduceLeDiff, Nat.reduceLT, z_l0, z_l1, z_l2, z_l3, z_l4, z_l5, z_l6, z_l7, z_l8, z_l9, z_l10, z_l11, z_l12, z_l13, z_l14, z_l15, z_l16, z_l17, z_l18, z_l19, z_l20, z_l21, z_l22, z_l23, z_l24, z_l25, z_l26, z_l27, z_l28, z_l32, z_l48, z_l56, z_l57, z_l59, z_l63, z_l64, z_l96, z_l97, z_l122, z_l127, z_l152, z_l158, z_l182, z_l255, z_l256, z_l310, z_l342, z_l406, z_l440, z_l729, z_l800, z_l3960, z_l14336, z_l14592, z_l100000, e2, x_countSeen hw ht hT, eT]
  · unfold f_X8_forget
    simp (disch := omega) only [z_gt, z_o1, z_o2, z_o3, z_o4, z_o5, z_o6, z_o7, z_o8, z_o9, z_bn, z_jn, nI_add, z_mul, z_sub, z_div, Nat.not_lt_zero, z_cl, z_le, z_lt, z_eq, z_inb, z_nz, z_isB0, z_notJ, z_notI, z_isB1, z_m1, z_pos, z_pos', z_nlt, z_nle', z_m1le, z_m1a, z_nle, z_sI0, z_sI1, z_sI2, z_sI3, z_sJ0, z_sJ1, z_sJ2, z_sJ3, z_sF0, z_sF1, z_sF2, z_sA0, z_sA1, z_sA2, z_sA3, z_sAA, z_sIA, ↓reduceIte, Nat.reduceEqDiff, Nat.reduceLeDiff, Nat.reduceLT, z_l0, z_l1, z_l2, z_l3, z_l4, z_l5, z_l6, z_l7, z_l8, z_l9, z_l10, z_l11, z_l12, z_l13, z_l14, z_l15, z_l16, z_l17, z_l18, z_l19, z_l20, z_l21, z_l22, z_l23, z_l24, z_l25, z_l26, z_l27, z_l28, z_l32, z_l48, z_l56, z_l57, z_l59, z_l63, z_l64, z_l96, z_l97, z_l122, z_l127, z_l152, z_l158, z_l182, z_l255, z_l256, z_l310, z_l342, z_l406, z_l440, z_l729, z_l800, z_l3960, z_l14336, z_l14592, z_l100000, e1, eS, e3]
  · rw [← hSd]
    exact ⟨hwS, htS, hC.of hw hlow, hTS⟩
  · rw [← hSd]
    exact hF.seen hw ht hr3
  · rw [K2.1, k1 12 (by decide) (by decide)]
    rfl
  · rw [K2.1, k1 16 (by decide) (by decide)]
    rfl
  · rw [K2.2.1 11 (by decide), k2 11 (by decide)]
    rfl
theorem q_see {vM vF vC vT vRT vG vB vRF vD : Vs} {vH : Hv} (hI : INV vM vF vC vT vRT vG vRF vD vH) (x1 x2 x3 : Int32) :
    ∃ c x vF' vT' vRT' vG' vB' vH' y vM', f_X7_see vF vC vT 342 vRT vG vB vH x1 x2 x3 = some (c, x, vF', vT', vRT', vG', vB', vH') ∧ f_X8_see vM x1 x2 x3 = some (y, vM') ∧ INV vM' vF' vC vT' vRT' vG' vRF vD vH' ∧ ((c = 0 ∧ vM'.1 0 = nI 0 ∧ x = y) ∨ (c = 2 ∧ vM'.1 0 = nI 1) ∨ (c = 1 ∧ vM'.1 0 = nI 2)) := by
  obtain ⟨n, hn3, hn9, hG, hF, hH, hX⟩ := id hI
  obtain ⟨hw, ht, hC, hT⟩ := id hG
  have hn := hw.nf
  have h16 := ht.1.2
  have hM := MS.of hn3 hn9
  have M0 := hM.sF 0 (nI 0) (by decide)
  have t0 : (sF vM 0 (nI 0)).1 0 = nI 0 := z_sF1 _ _ _
  have gO := g_outputs M0 hw
  have rgt1 := g_right0 t0 (c := 1) (by omega) (by omega)
  have rgt2 := g_right0 t0 (c := 2) (by omega) (by omega)
  rcases in_or x1 (n := NT (rwv vM n)) (by omega) with ⟨t, h1, rfl⟩ | h1
  · rcases in_or x2 (n := NO (rwv vM n)) (by omega) with ⟨o, h2, rfl⟩ | h2
    · have i2 := g_isIn_y h2 (by omega)
      rw [z_l0, z_l1, z_sub (by omega)] at i2
      rcases in_or x3 (n := 3) (by omega) with ⟨w, h3, rfl⟩ | h3
      · have i3 := g_isIn_y h3 (by omega)
        rw [z_l0, z_l1, z_sub (by omega)] at i3
        obtain ⟨v1, h1', e1, e2, m1, k1, k2, hHX⟩ := q_change (v := sF vM 0 (nI 0)) hn3 hn9 hG (hH.qm (QM.th _ _))
        have m1 : MS v1 ((n + 1) % 9) (rwv vM n) := m1
        obtain ⟨v2, e3, m2, K2⟩ := h_put m1 (k := 310 + 6 * t + o) (by omega) (nI w)
        -- the class's note
        obtain ⟨bz, hbz⟩ : ∃ b, b = (nI 1 <<< (nI t &&& 31) : Int32) := ⟨_, rfl⟩
        have hbit : ∀ j, j < 32 → bI bz j = decide (j = t) := fun j _ => by rw [hbz, bI_shl1 (by omega)]
        obtain ⟨zz, hzz⟩ : ∃ z, z = (if w = 0 then (vT.2.1 3 o &&& ~~~bz) ||| bz else vT.2.1 3 o &&& ~~~bz) := ⟨_, rfl⟩
        obtain ⟨uu, huu⟩ : ∃ z, z = (if w = 1 then (vT.2.1 4 o &&& ~~~bz) ||| bz else vT.2.1 4 o &&& ~~~bz) := ⟨_, rfl⟩
        have hzb : ∀ j, j < 32 → bI zz j = if j = t then decide (w = 0) else bI (vT.2.1 3 o) j := fun j hj => by
          rw [hzz]
          by_cases c : w = 0
          · rw [if_pos c, bI_or, bI_and, bI_not _ hj, hbit j hj]
            by_cases e : j = t <;> simp [e, c]
          · rw [if_neg c, bI_and, bI_not _ hj, hbit j hj]
            by_cases e : j = t <;> simp [e, c]
        have hub : ∀ j, j < 32 → bI uu j = if j = t then decide (w = 1) else bI (vT.2.1 4 o) j := fun j hj => by
          rw [huu]
          by_cases c : w = 1
          · rw [if_pos c, bI_or, bI_and, bI_not _ hj, hbit j hj]
            by_cases e : j = t <;> simp [e, c]
          · rw [if_neg c, bI_and, bI_not _ hj, hbit j hj]
            by_cases e : j = t <;> simp [e, c]
        have eN : ∃ v', f_X6_note vT (nI t) (nI o) (nI w) = some v' ∧ v'.1 = vT.1 ∧ v'.2.1 1 = vT.2.1 1 ∧ v'.2.1 2 = vT.2.1 2 ∧ v'.2.1 3 = upd (vT.2.1 3) o zz ∧ v'.2.1 4 = upd (vT.2.1 4) o uu := by
          unfold f_X6_note
          have uu2 : ∀ (f : Nat → Int32) (a b : Int32), upd (upd f o a) o b = upd f o b := fun f a b => by
            funext j
            by_cases hj : j = o
            · rw [z_u1 _ _ hj, z_u1 _ _ hj]
            · rw [z_u2 _ _ hj, z_u2 _ _ hj, z_u2 _ _ hj]
          have hw3 : w = 0 ∨ w = 1 ∨ w = 2 := by omega
          rcases hw3 with rfl | rfl | rfl
          · simp (disch := omega) only [z_gt, z_o1, z_o2, z_o3, z_o4, z_o5, z_o6, z_o7, z_o8, z_o9, z_bn, z_jn, nI_add, z_mul, z_sub, z_div, Nat.not_lt_zero, z_cl, z_le, z_lt, z_eq, z_inb, z_nz, z_isB0, z_notJ, z_notI, z_isB1, z_m1, z_pos, z_pos', z_nlt, z_nle', z_m1le, z_m1a, z_nle, z_sI0, z_sI1, z_sI2, z_sI3, z_sJ0, z_sJ1, z_sJ2, z_sJ3, z_sF0, z_sF1, z_sF2, z_sA0, z_sA1, z_sA2, z_sA3, z_sAA, z_sIA, ↓reduceIte, Nat.reduceEqDiff, Nat.reduceLeDiff, Nat.reduceLT, z_l0, z_l1, z_l2, z_l3, z_l4, z_l5, z_l6, z_l7, z_l8, z_l9, z_l10, z_l11, z_l12, z_l13, z_l14, z_l15, z_l16, z_l17, z_l18, z_l19, z_l20, z_l21, z_l22, z_l23, z_l24, z_l25, z_l26, z_l27, z_l28, z_l32, z_l48, z_l56, z_l57, z_l59, z_l63, z_l64, z_l96, z_l97, z_l122, z_l127, z_l152, z_l158, z_l182, z_l255, z_l256, z_l310, z_l342, z_l406, z_l440, z_l729, z_l800, z_l3960, z_l14336, z_l14592, z_l100000, ← hbz, z_u1, uu2]
            refine ⟨_, rfl, rfl, ?_, ?_, ?_, ?_⟩
            · simp (disch := omega) only [z_gt, z_o1, z_o2, z_o3, z_o4, z_o5, z_o6, z_o7, z_o8, z_o9, z_bn, z_jn, nI_add, z_mul, z_sub, z_div, Nat.not_lt_zero, z_cl, z_le, z_lt, z_eq, z_inb, z_nz, z_isB0, z_notJ, z_notI, z_isB1, z_m1, z_pos, z_pos', z_nlt, z_nle', z_m1le, z_m1a, z_nle, z_sI0, z_sI1, z_sI2, z_sI3, z_sJ0, z_sJ1, z_sJ2, z_sJ3, z_sF0, z_sF1, z_sF2, z_sA0, z_sA1, z_sA2, z_sA3, z_sAA, z_sIA, ↓reduceIte, Nat.reduceEqDiff, Nat.reduceLeDiff, Nat.reduceLT, z_l0, z_l1, z_l2, z_l3, z_l4, z_l5, z_l6, z_l7, z_l8, z_l9, z_l10, z_l11, z_l12, z_l13, z_l14, z_l15, z_l16, z_l17, z_l18, z_l19, z_l20, z_l21, z_l22, z_l23, z_l24, z_l25, z_l26, z_l27, z_l28, z_l32, z_l48, z_l56, z_l57, z_l59, z_l63, z_l64, z_l96, z_l97, z_l122, z_l127, z_l152, z_l158, z_l182, z_l255, z_l256, z_l310, z_l342, z_l406, z_l440, z_l729, z_l800, z_l3960, z_l14336, z_l14592, z_l100000]
            · simp (disch := omega) only [z_gt, z_o1, z_o2, z_o3, z_o4, z_o5, z_o6, z_o7, z_o8, z_o9, z_bn, z_jn, nI_add, z_mul, z_sub, z_div, Nat.not_lt_zero, z_cl, z_le, z_lt, z_eq, z_inb, z_nz, z_isB0, z_notJ, z_notI, z_isB1, z_m1, z_pos, z_pos', z_nlt, z_nle', z_m1le, z_m1a, z_nle, z_sI0, z_sI1, z_sI2, z_sI3, z_sJ0, z_sJ1, z_sJ2, z_sJ3, z_sF0, z_sF1, z_sF2, z_sA0, z_sA1, z_sA2, z_sA3, z_sAA, z_sIA, ↓reduceIte, Nat.reduceEqDiff, Nat.reduceLeDiff, Nat.reduceLT, z_l0, z_l1, z_l2, z_l3, z_l4, z_l5, z_l6, z_l7, z_l8, z_l9, z_l10, z_l11, z_l12, z_l13, z_l14, z_l15, z_l16, z_l17, z_l18, z_l19, z_l20, z_l21, z_l22, z_l23, z_l24, z_l25, z_l26, z_l27, z_l28, z_l32, z_l48, z_l56, z_l57, z_l59, z_l63, z_l64, z_l96, z_l97, z_l122, z_l127, z_l152, z_l158, z_l182, z_l255, z_l256, z_l310, z_l342, z_l406, z_l440, z_l729, z_l800, z_l3960, z_l14336, z_l14592, z_l100000]
            · simp (disch := omega) only [z_gt, z_o1, z_o2, z_o3, z_o4, z_o5, z_o6, z_o7, z_o8, z_o9, z_bn, z_jn, nI_add, z_mul, z_sub, z_div, Nat.not_lt_zero, z_cl, z_le, z_lt, z_eq, z_inb, z_nz, z_isB0, z_notJ, z_notI, z_isB1, z_m1, z_pos, z_pos', z_nlt, z_nle', z_m1le, z_m1a, z_nle, z_sI0, z_sI1, z_sI2, z_sI3, z_sJ0, z_sJ1, z_sJ2, z_sJ3, z_sF0, z_sF1, z_sF2, z_sA0, z_sA1, z_sA2, z_sA3, z_sAA, z_sIA, ↓reduceIte, Nat.reduceEqDiff, Nat.reduceLeDiff, Nat.reduceLT, z_l0, z_l1, z_l2, z_l3, z_l4, z_l5, z_l6, z_l7, z_l8, z_l9, z_l10, z_l11, z_l12, z_l13, z_l14, z_l15, z_l16, z_l17, z_l18, z_l19, z_l20, z_l21, z_l22, z_l23, z_l24, z_l25, z_l26, z_l27, z_l28, z_l32, z_l48, z_l56, z_l57, z_l59, z_l63, z_l64, z_l96, z_l97, z_l122, z_l127, z_l152, z_l158, z_l182, z_l255, z_l256, z_l310, z_l342, z_l406, z_l440, z_l729, z_l800, z_l3960, z_l14336, z_l14592, z_l100000, hzz, z_u1, uu2]
            · simp (disch := omega) only [z_gt, z_o1, z_o2, z_o3, z_o4, z_o5, z_o6, z_o7, z_o8, z_o9, z_bn, z_jn, nI_add, z_mul, z_sub, z_div, Nat.not_lt_zero, z_cl, z_le, z_lt, z_eq, z_inb, z_nz, z_isB0, z_notJ, z_notI, z_isB1, z_m1, z_pos, z_pos', z_nlt, z_nle', z_m1le, z_m1a, z_nle, z_sI0, z_sI1, z_sI2, z_sI3, z_sJ0, z_sJ1, z_sJ2, z_sJ3, z_sF0, z_sF1, z_sF2, z_sA0, z_sA1, z_sA2, z_sA3, z_sAA, z_sIA, ↓reduceIte, Nat.reduceEqDiff, Nat.reduceLeDiff, Nat.reduceLT, z_l0, z_l1, z_l2, z_l3, z_l4, z_l5, z_l6, z_l7, z_l8, z_l9, z_l10, z_l11, z_l12, z_l13, z_l14, z_l15, z_l16, z_l17, z_l18, z_l19, z_l20, z_l21, z_l22, z_l23, z_l24, z_l25, z_l26, z_l27, z_l28, z_l32, z_l48, z_l56, z_l57, z_l59, z_l63, z_l64, z_l96, z_l97, z_l122, z_l127, z_l152, z_l158, z_l182, z_l255, z_l256, z_l310, z_l342, z_l406, z_l440, z_l729, z_l800, z_l3960, z_l14336, z_l14592, z_l100000, huu]
          · simp (disch := omega) only [z_gt, z_o1, z_o2, z_o3, z_o4, z_o5, z_o6, z_o7, z_o8, z_o9, z_bn, z_jn, nI_add, z_mul, z_sub, z_div, Nat.not_lt_zero, z_cl, z_le, z_lt, z_eq, z_inb, z_nz, z_isB0, z_notJ, z_notI, z_isB1, z_m1, z_pos, z_pos', z_nlt, z_nle', z_m1le, z_m1a, z_nle, z_sI0, z_sI1, z_sI2, z_sI3, z_sJ0, z_sJ1, z_sJ2, z_sJ3, z_sF0, z_sF1, z_sF2, z_sA0, z_sA1, z_sA2, z_sA3, z_sAA, z_sIA, ↓reduceIte, Nat.reduceEqDiff, Nat.reduceLeDiff, Nat.reduceLT, z_l0, z_l1, z_l2, z_l3, z_l4, z_l5, z_l6, z_l7, z_l8, z_l9, z_l10, z_l11, z_l12, z_l13, z_l14, z_l15, z_l16, z_l17, z_l18, z_l19, z_l20, z_l21, z_l22, z_l23, z_l24, z_l25, z_l26, z_l27, z_l28, z_l32, z_l48, z_l56, z_l57, z_l59, z_l63, z_l64, z_l96, z_l97, z_l122, z_l127, z_l152, z_l158, z_l182, z_l255, z_l256, z_l310, z_l342, z_l406, z_l440, z_l729, z_l800, z_l3960, z_l14336, z_l14592, z_l100000, ← hbz, z_u1, uu2]
            refine ⟨_, rfl, rfl, ?_, ?_, ?_, ?_⟩
            · simp (disch := omega) only [z_gt, z_o1, z_o2, z_o3, z_o4, z_o5, z_o6, z_o7, z_o8, z_o9, z_bn, z_jn, nI_add, z_mul, z_sub, z_div, Nat.not_lt_zero, z_cl, z_le, z_lt, z_eq, z_inb, z_nz, z_isB0, z_notJ, z_notI, z_isB1, z_m1, z_pos, z_pos', z_nlt, z_nle', z_m1le, z_m1a, z_nle, z_sI0, z_sI1, z_sI2, z_sI3, z_sJ0, z_sJ1, z_sJ2, z_sJ3, z_sF0, z_sF1, z_sF2, z_sA0, z_sA1, z_sA2, z_sA3, z_sAA, z_sIA, ↓reduceIte, Nat.reduceEqDiff, Nat.reduceLeDiff, Nat.reduceLT, z_l0, z_l1, z_l2, z_l3, z_l4, z_l5, z_l6, z_l7, z_l8, z_l9, z_l10, z_l11, z_l12, z_l13, z_l14, z_l15, z_l16, z_l17, z_l18, z_l19, z_l20, z_l21, z_l22, z_l23, z_l24, z_l25, z_l26, z_l27, z_l28, z_l32, z_l48, z_l56, z_l57, z_l59, z_l63, z_l64, z_l96, z_l97, z_l122, z_l127, z_l152, z_l158, z_l182, z_l255, z_l256, z_l310, z_l342, z_l406, z_l440, z_l729, z_l800, z_l3960, z_l14336, z_l14592, z_l100000]
            · simp (disch := omega) only [z_gt, z_o1, z_o2, z_o3, z_o4, z_o5, z_o6, z_o7, z_o8, z_o9, z_bn, z_jn, nI_add, z_mul, z_sub, z_div, Nat.not_lt_zero, z_cl, z_le, z_lt, z_eq, z_inb, z_nz, z_isB0, z_notJ, z_notI, z_isB1, z_m1, z_pos, z_pos', z_nlt, z_nle', z_m1le, z_m1a, z_nle, z_sI0, z_sI1, z_sI2, z_sI3, z_sJ0, z_sJ1, z_sJ2, z_sJ3, z_sF0, z_sF1, z_sF2, z_sA0, z_sA1, z_sA2, z_sA3, z_sAA, z_sIA, ↓reduceIte, Nat.reduceEqDiff, Nat.reduceLeDiff, Nat.reduceLT, z_l0, z_l1, z_l2, z_l3, z_l4, z_l5, z_l6, z_l7, z_l8, z_l9, z_l10, z_l11, z_l12, z_l13, z_l14, z_l15, z_l16, z_l17, z_l18, z_l19, z_l20, z_l21, z_l22, z_l23, z_l24, z_l25, z_l26, z_l27, z_l28, z_l32, z_l48, z_l56, z_l57, z_l59, z_l63, z_l64, z_l96, z_l97, z_l122, z_l127, z_l152, z_l158, z_l182, z_l255, z_l256, z_l310, z_l342, z_l406, z_l440, z_l729, z_l800, z_l3960, z_l14336, z_l14592, z_l100000]
            · simp (disch := omega) only [z_gt, z_o1, z_o2, z_o3, z_o4, z_o5, z_o6, z_o7, z_o8, z_o9, z_bn, z_jn, nI_add, z_mul, z_sub, z_div, Nat.not_lt_zero, z_cl, z_le, z_lt, z_eq, z_inb, z_nz, z_isB0, z_notJ, z_notI, z_isB1, z_m1, z_pos, z_pos', z_nlt, z_nle', z_m1le, z_m1a, z_nle, z_sI0, z_sI1, z_sI2, z_sI3, z_sJ0, z_sJ1, z_sJ2, z_sJ3, z_sF0, z_sF1, z_sF2, z_sA0, z_sA1, z_sA2, z_sA3, z_sAA, z_sIA, ↓reduceIte, Nat.reduceEqDiff, Nat.reduceLeDiff, Nat.reduceLT, z_l0, z_l1, z_l2, z_l3, z_l4, z_l5, z_l6, z_l7, z_l8, z_l9, z_l10, z_l11, z_l12, z_l13, z_l14, z_l15, z_l16, z_l17, z_l18, z_l19, z_l20, z_l21, z_l22, z_l23, z_l24, z_l25, z_l26, z_l27, z_l28, z_l32, z_l48, z_l56, z_l57, z_l59, z_l63, z_l64, z_l96, z_l97, z_l122, z_l127, z_l152, z_l158, z_l182, z_l255, z_l256, z_l310, z_l342, z_l406, z_l440, z_l729, z_l800, z_l3960, z_l14336, z_l14592, z_l100000, hzz]
            · simp (disch := omega) only [z_gt, z_o1, z_o2, z_o3, z_o4, z_o5, z_o6, z_o7, z_o8, z_o9, z_bn, z_jn, nI_add, z_mul, z_sub, z_div, Nat.not_lt_zero, z_cl, z_le, z_lt, z_eq, z_inb, z_nz, z_isB0, z_notJ, z_notI, z_isB1, z_m1, z_pos, z_pos', z_nlt, z_nle', z_m1le, z_m1a, z_nle, z_sI0, z_sI1, z_sI2, z_sI3, z_sJ0, z_sJ1, z_sJ2, z_sJ3, z_sF0, z_sF1, z_sF2, z_sA0, z_sA1, z_sA2, z_sA3, z_sAA, z_sIA, ↓reduceIte, Nat.reduceEqDiff, Nat.reduceLeDiff, Nat.reduceLT, z_l0, z_l1, z_l2, z_l3, z_l4, z_l5, z_l6, z_l7, z_l8, z_l9, z_l10, z_l11, z_l12, z_l13, z_l14, z_l15, z_l16, z_l17, z_l18, z_l19, z_l20, z_l21, z_l22, z_l23, z_l24, z_l25, z_l26, z_l27, z_l28, z_l32, z_l48, z_l56, z_l57, z_l59, z_l63, z_l64, z_l96, z_l97, z_l122, z_l127, z_l152, z_l158, z_l182, z_l255, z_l256, z_l310, z_l342, z_l406, z_l440, z_l729, z_l800, z_l3960, z_l14336, z_l14592, z_l100000, huu, z_u1, uu2]
          · simp (disch := omega) only [z_gt, z_o1, z_o2, z_o3, z_o4, z_o5, z_o6, z_o7, z_o8, z_o9, z_bn, z_jn, nI_add, z_mul, z_sub, z_div, Nat.not_lt_zero, z_cl, z_le, z_lt, z_eq, z_inb, z_nz, z_isB0, z_notJ, z_notI, z_isB1, z_m1, z_pos, z_pos', z_nlt, z_nle', z_m1le, z_m1a, z_nle, z_sI0, z_sI1, z_sI2, z_sI3, z_sJ0, z_sJ1, z_sJ2, z_sJ3, z_sF0, z_sF1, z_sF2, z_sA0, z_sA1, z_sA2, z_sA3, z_sAA, z_sIA, ↓reduceIte, Nat.reduceEqDiff, Nat.reduceLeDiff, Nat.reduceLT, z_l0, z_l1, z_l2, z_l3, z_l4, z_l5, z_l6, z_l7, z_l8, z_l9, z_l10, z_l11, z_l12, z_l13, z_l14, z_l15, z_l16, z_l17, z_l18, z_l19, z_l20, z_l21, z_l22, z_l23, z_l24, z_l25, z_l26, z_l27, z_l28, z_l32, z_l48, z_l56, z_l57, z_l59, z_l63, z_l64, z_l96, z_l97, z_l122, z_l127, z_l152, z_l158, z_l182, z_l255, z_l256, z_l310, z_l342, z_l406, z_l440, z_l729, z_l800, z_l3960, z_l14336, z_l14592, z_l100000, ← hbz, z_u1, uu2]
            refine ⟨_, rfl, rfl, ?_, ?_, ?_, ?_⟩
            · simp (disch := omega) only [z_gt, z_o1, z_o2, z_o3, z_o4, z_o5, z_o6, z_o7, z_o8, z_o9, z_bn, z_jn, nI_add, z_mul, z_sub, z_div, Nat.not_lt_zero, z_cl, z_le, z_lt, z_eq, z_inb, z_nz, z_isB0, z_notJ, z_notI, z_isB1, z_m1, z_pos, z_pos', z_nlt, z_nle', z_m1le, z_m1a, z_nle, z_sI0, z_sI1, z_sI2, z_sI3, z_sJ0, z_sJ1, z_sJ2, z_sJ3, z_sF0, z_sF1, z_sF2, z_sA0, z_sA1, z_sA2, z_sA3, z_sAA, z_sIA, ↓reduceIte, Nat.reduceEqDiff, Nat.reduceLeDiff, Nat.reduceLT, z_l0, z_l1, z_l2, z_l3, z_l4, z_l5, z_l6, z_l7, z_l8, z_l9, z_l10, z_l11, z_l12, z_l13, z_l14, z_l15, z_l16, z_l17, z_l18, z_l19, z_l20, z_l21, z_l22, z_l23, z_l24, z_l25, z_l26, z_l27, z_l28, z_l32, z_l48, z_l56, z_l57, z_l59, z_l63, z_l64, z_l96, z_l97, z_l122, z_l127, z_l152, z_l158, z_l182, z_l255, z_l256, z_l310, z_l342, z_l406, z_l440, z_l729, z_l800, z_l3960, z_l14336, z_l14592, z_l100000]
            · simp (disch := omega) only [z_gt, z_o1, z_o2, z_o3, z_o4, z_o5, z_o6, z_o7, z_o8, z_o9, z_bn, z_jn, nI_add, z_mul, z_sub, z_div, Nat.not_lt_zero, z_cl, z_le, z_lt, z_eq, z_inb, z_nz, z_isB0, z_notJ, z_notI, z_isB1, z_m1, z_pos, z_pos', z_nlt, z_nle', z_m1le, z_m1a, z_nle, z_sI0, z_sI1, z_sI2, z_sI3, z_sJ0, z_sJ1, z_sJ2, z_sJ3, z_sF0, z_sF1, z_sF2, z_sA0, z_sA1, z_sA2, z_sA3, z_sAA, z_sIA, ↓reduceIte, Nat.reduceEqDiff, Nat.reduceLeDiff, Nat.reduceLT, z_l0, z_l1, z_l2, z_l3, z_l4, z_l5, z_l6, z_l7, z_l8, z_l9, z_l10, z_l11, z_l12, z_l13, z_l14, z_l15, z_l16, z_l17, z_l18, z_l19, z_l20, z_l21, z_l22, z_l23, z_l24, z_l25, z_l26, z_l27, z_l28, z_l32, z_l48, z_l56, z_l57, z_l59, z_l63, z_l64, z_l96, z_l97, z_l122, z_l127, z_l152, z_l158, z_l182, z_l255, z_l256, z_l310, z_l342, z_l406, z_l440, z_l729, z_l800, z_l3960, z_l14336, z_l14592, z_l100000]
            · simp (disch := omega) only [z_gt, z_o1, z_o2, z_o3, z_o4, z_o5, z_o6, z_o7, z_o8, z_o9, z_bn, z_jn, nI_add, z_mul, z_sub, z_div, Nat.not_lt_zero, z_cl, z_le, z_lt, z_eq, z_inb, z_nz, z_isB0, z_notJ, z_notI, z_isB1, z_m1, z_pos, z_pos', z_nlt, z_nle', z_m1le, z_m1a, z_nle, z_sI0, z_sI1, z_sI2, z_sI3, z_sJ0, z_sJ1, z_sJ2, z_sJ3, z_sF0, z_sF1, z_sF2, z_sA0, z_sA1, z_sA2, z_sA3, z_sAA, z_sIA, ↓reduceIte, Nat.reduceEqDiff, Nat.reduceLeDiff, Nat.reduceLT, z_l0, z_l1, z_l2, z_l3, z_l4, z_l5, z_l6, z_l7, z_l8, z_l9, z_l10, z_l11, z_l12, z_l13, z_l14, z_l15, z_l16, z_l17, z_l18, z_l19, z_l20, z_l21, z_l22, z_l23, z_l24, z_l25, z_l26, z_l27, z_l28, z_l32, z_l48, z_l56, z_l57, z_l59, z_l63, z_l64, z_l96, z_l97, z_l122, z_l127, z_l152, z_l158, z_l182, z_l255, z_l256, z_l310, z_l342, z_l406, z_l440, z_l729, z_l800, z_l3960, z_l14336, z_l14592, z_l100000, hzz]
            · simp (disch := omega) only [z_gt, z_o1, z_o2, z_o3, z_o4, z_o5, z_o6, z_o7, z_o8, z_o9, z_bn, z_jn, nI_add, z_mul, z_sub, z_div, Nat.not_lt_zero, z_cl, z_le, z_lt, z_eq, z_inb, z_nz, z_isB0, z_notJ, z_notI, z_isB1, z_m1, z_pos, z_pos', z_nlt, z_nle', z_m1le, z_m1a, z_nle, z_sI0, z_sI1, z_sI2, z_sI3, z_sJ0, z_sJ1, z_sJ2, z_sJ3, z_sF0, z_sF1, z_sF2, z_sA0, z_sA1, z_sA2, z_sA3, z_sAA, z_sIA, ↓reduceIte, Nat.reduceEqDiff, Nat.reduceLeDiff, Nat.reduceLT, z_l0, z_l1, z_l2, z_l3, z_l4, z_l5, z_l6, z_l7, z_l8, z_l9, z_l10, z_l11, z_l12, z_l13, z_l14, z_l15, z_l16, z_l17, z_l18, z_l19, z_l20, z_l21, z_l22, z_l23, z_l24, z_l25, z_l26, z_l27, z_l28, z_l32, z_l48, z_l56, z_l57, z_l59, z_l63, z_l64, z_l96, z_l97, z_l122, z_l127, z_l152, z_l158, z_l182, z_l255, z_l256, z_l310, z_l342, z_l406, z_l440, z_l729, z_l800, z_l3960, z_l14336, z_l14592, z_l100000, huu]
        obtain ⟨vT', eT, u1, u2, u3, u4, u5⟩ := eN
        have hr3 : ∀ k, k < 440 → k ≠ 310 + 6 * t + o → rwv v2 ((n + 1) % 9) k = rwv vM n k := fun k hk hne => by rw [m2.rw hk, z_u2 _ _ hne]
        have hrv : rwv v2 ((n + 1) % 9) (310 + 6 * t + o) = nI w := by rw [m2.rw (by omega), z_u1 _ _ rfl]
        have hlow : ∀ k, k < 182 → k ≠ 4 → rwv v2 ((n + 1) % 9) k = rwv vM n k := fun k hk _ => hr3 k (by omega) (by omega)
        have hr310 : ∀ k, k < 310 → rwv v2 ((n + 1) % 9) k = rwv vM n k := fun k hk => hr3 k (by omega) (by omega)
        obtain ⟨S, hSd⟩ : ∃ S, S = rwv v2 ((n + 1) % 9) := ⟨_, rfl⟩
        rw [← hSd] at hr3 hrv hlow hr310
        have e0 : NI S = NI (rwv vM n) := by show nn (S 0) = _; rw [hr310 0 (by omega)]
        have eO : NO S = NO (rwv vM n) := by show nn (S 2) = _; rw [hr310 2 (by omega)]
        have e4 : NT S = NT (rwv vM n) := by show nn (S 4) = _; rw [hr310 4 (by omega)]
        have esn : ∀ t' o', t' < 16 → o' < 6 → sn S t' o' = if t' = t ∧ o' = o then w else sn (rwv vM n) t' o' := fun t' o' h1 h2 => by
          by_cases c : t' = t ∧ o' = o
          · obtain ⟨rfl, rfl⟩ := c
            rw [if_pos ⟨rfl, rfl⟩]
            show nn (S _) = w
            rw [hrv, nn_nI (by omega)]
          · rw [if_neg c]
            show nn (S _) = nn _
            rw [hr3 _ (by omega) (by omega)]
        have hwS : WFc S := hw.of hlow
        have htS : WFt S := by
          unfold WFt
          rw [e0, e4, hr310 4 (by omega)]
          refine ⟨ht.1, fun t' i h1 h2 => ?_, fun t' o' h1 h2 => ?_⟩
          · have e := hr310 (182 + 8 * t' + i) (by omega)
            have e9 : tv S t' i = tv (rwv vM n) t' i := by show nn _ = nn _; rw [e]
            rw [e, e9]
            exact ht.2.1 t' i h1 h2
          · rw [esn t' o' (by omega) h2]
            by_cases c : t' = t ∧ o' = o
            · rw [if_pos c]
              obtain ⟨rfl, rfl⟩ := c
              exact ⟨hrv, by omega⟩
            · rw [if_neg c, hr3 _ (by omega) (by omega)]
              exact ht.2.2 t' o' h1 h2
        have hTS : RT S vT' := by
          unfold RT
          rw [e0, e4, eO, u1, u2, u3, u4, u5]
          refine ⟨hT.1, fun t' i h8 h9 => ?_, fun o' t' h8 h9 => ?_⟩
          · have e9 : tv S t' i = tv (rwv vM n) t' i := by show nn _ = nn _; rw [hr310 _ (by omega)]
            rw [e9]
            exact hT.2.1 t' i h8 h9
          · by_cases ce : o' = o
            · rw [ce, z_u1 _ _ rfl, z_u1 _ _ rfl, hzb t' h9, hub t' h9]
              by_cases ct : t' = t
              · rw [if_pos ct, if_pos ct, ct, esn t o (by omega) (by omega), if_pos ⟨rfl, rfl⟩]
                simp [h2, h1]
              · rw [if_neg ct, if_neg ct]
                by_cases cn : t' < NT (rwv vM n)
                · rw [esn t' o (by omega) (by omega), if_neg (by omega)]
                  rw [ce] at h8
                  exact hT.2.2 o t' h8 h9
                · rw [ce] at h8
                  obtain ⟨c1, c2⟩ := hT.2.2 o t' h8 h9
                  rw [c1, c2]
                  simp [cn]
            · rw [z_u2 _ _ ce, z_u2 _ _ ce]
              by_cases cn : t' < NT (rwv vM n)
              · by_cases co : o' < NO (rwv vM n)
                · rw [esn t' o' (by omega) (by omega), if_neg (by omega)]
                  exact hT.2.2 o' t' h8 h9
                · obtain ⟨c1, c2⟩ := hT.2.2 o' t' h8 h9
                  rw [c1, c2]
                  simp [co]
              · obtain ⟨c1, c2⟩ := hT.2.2 o' t' h8 h9
                rw [c1, c2]
                simp [cn]
        have hCS : RC S vC := hC.of hw hlow
        have hFS : FI S vF vRT vG vRF := hF.seen hw ht hr310
        have m2S : MS v2 ((n + 1) % 9) S := by
          rw [hSd]
          exact MS.of m2.1 m2.2.1
        obtain ⟨vF', vRT', vG', vB', eL, hFL, -, -, -, -, -, -⟩ := y_listFitting hwS htS (vB := vB) hCS hTS hFS
        obtain ⟨v3, eF, s3, -⟩ := h_fitting m2S hwS htS
        have Q3 : QM v2 v3 := QM.sc s3 (by decide) (by decide)
        have t3 : v3.1 0 = nI 0 := by rw [s3.1, K2.1, k1 0 (by decide) (by decide)]; exact t0
        have hI2 : INV v2 vF' vC vT' vRT' vG' vRF vD h1' := ⟨(n + 1) % 9, m2.1, m2.2.1, by rw [← hSd]; exact ⟨hwS, htS, hCS, hTS⟩, by rw [← hSd]; exact hFL, hHX v2 K2, hX.same (by rw [K2.1, k1 12 (by decide) (by decide)]; rfl) (by rw [K2.1, k1 16 (by decide) (by decide)]; rfl) (by rw [K2.2.1 11 (by decide), k2 11 (by decide)]; rfl)⟩
        refine ⟨0, nI (FC S), vF', vT', vRT', vG', vB', h1', nI (FC S), v3, ?_, ?_, hI2.th Q3, Or.inl ⟨rfl, t3, rfl⟩⟩
        · unfold f_X7_see
          have h3' : w ≤ 2 := by omega
          simp (disch := omega) only [z_gt, z_o1, z_o2, z_o3, z_o4, z_o5, z_o6, z_o7, z_o8, z_o9, z_bn, z_jn, nI_add, z_mul, z_sub, z_div, Nat.not_lt_zero, z_cl, z_le, z_lt, z_eq, z_inb, z_nz, z_isB0, z_notJ, z_notI, z_isB1, z_m1, z_pos, z_pos', z_nlt, z_nle', z_m1le, z_m1a, z_nle, z_sI0, z_sI1, z_sI2, z_sI3, z_sJ0, z_sJ1, z_sJ2, z_sJ3, z_sF0, z_sF1, z_sF2, z_sA0, z_sA1, z_sA2, z_sA3, z_sAA, z_sIA, ↓reduceIte, Nat.reduceEqDiff, Nat.reduceLeDiff, Nat.reduceLT, z_l0, z_l1, z_l2, z_l3, z_l4, z_l5, z_l6, z_l7, z_l8, z_l9, z_l10, z_l11, z_l12, z_l13, z_l14, z_l15, z_l16, z_l17, z_l18, z_l19, z_l20, z_l21, z_l22, z_l23, z_l24, z_l25, z_l26, z_l27, z_l28, z_l32, z_l48, z_l56, z_l57, z_l59, z_l63, z_l64, z_l96, z_l97, z_l122, z_l127, z_l152, z_l158, z_l182, z_l255, z_l256, z_l310, z_l342, z_l406, z_l440, z_l729, z_l800, z_l3960, z_l14336, z_l14592, z_l100000, x_test_y ht hT h1, hC.1.2.2.1, h2, h3', e2, eT, eL]
        · unfold f_X8_see
          simp (disch := omega) only [z_gt, z_o1, z_o2, z_o3, z_o4, z_o5, z_o6, z_o7, z_o8, z_o9, z_bn, z_jn, nI_add, z_mul, z_sub, z_div, Nat.not_lt_zero, z_cl, z_le, z_lt, z_eq, z_inb, z_nz, z_isB0, z_notJ, z_notI, z_isB1, z_m1, z_pos, z_pos', z_nlt, z_nle', z_m1le, z_m1a, z_nle, z_sI0, z_sI1, z_sI2, z_sI3, z_sJ0, z_sJ1, z_sJ2, z_sJ3, z_sF0, z_sF1, z_sF2, z_sA0, z_sA1, z_sA2, z_sA3, z_sAA, z_sIA, ↓reduceIte, Nat.reduceEqDiff, Nat.reduceLeDiff, Nat.reduceLT, z_l0, z_l1, z_l2, z_l3, z_l4, z_l5, z_l6, z_l7, z_l8, z_l9, z_l10, z_l11, z_l12, z_l13, z_l14, z_l15, z_l16, z_l17, z_l18, z_l19, z_l20, z_l21, z_l22, z_l23, z_l24, z_l25, z_l26, z_l27, z_l28, z_l32, z_l48, z_l56, z_l57, z_l59, z_l63, z_l64, z_l96, z_l97, z_l122, z_l127, z_l152, z_l158, z_l182, z_l255, z_l256, z_l310, z_l342, z_l406, z_l440, z_l729, z_l800, z_l3960, z_l14336, z_l14592, z_l100000, g_isTest_y M0 ht t0 h1, gO, i2, g_right1 t0, i3, e1, e3, eF]
      · have i3 := g_isIn_n h3 (by omega)
        rw [z_l0, z_l1, z_sub (by omega)] at i3
        refine ⟨1, nI 0, vF, vT, vRT, vG, vB, vH, nI 0, thM vM 2, ?_, ?_, hI.th (QM.tm _ _), Or.inr (Or.inr ⟨rfl, thM_0 _ _⟩)⟩
        · unfold f_X7_see
          rw [x_test_y ht hT h1, z_o1, if_pos rfl, z_jn, hC.1.2.2.1, if_neg (pos_n (by omega)), ilt h2 (by omega), z_jn]
          by_cases c : x3 < 0
          · rw [if_pos c]
            rfl
          · rw [if_neg c, if_neg]
            · rfl
            · rcases h3 with h3 | h3
              · exact absurd h3 c
              · intro q
                rw [Int32.le_iff_toInt_le] at h3 q
                rw [nI_toInt (by omega)] at h3
                have : (2 : Int32).toInt = 2 := by decide
                omega
        · unfold f_X8_see
          simp (disch := omega) only [z_gt, z_o1, z_o2, z_o3, z_o4, z_o5, z_o6, z_o7, z_o8, z_o9, z_bn, z_jn, nI_add, z_mul, z_sub, z_div, Nat.not_lt_zero, z_cl, z_le, z_lt, z_eq, z_inb, z_nz, z_isB0, z_notJ, z_notI, z_isB1, z_m1, z_pos, z_pos', z_nlt, z_nle', z_m1le, z_m1a, z_nle, z_sI0, z_sI1, z_sI2, z_sI3, z_sJ0, z_sJ1, z_sJ2, z_sJ3, z_sF0, z_sF1, z_sF2, z_sA0, z_sA1, z_sA2, z_sA3, z_sAA, z_sIA, ↓reduceIte, Nat.reduceEqDiff, Nat.reduceLeDiff, Nat.reduceLT, z_l0, z_l1, z_l2, z_l3, z_l4, z_l5, z_l6, z_l7, z_l8, z_l9, z_l10, z_l11, z_l12, z_l13, z_l14, z_l15, z_l16, z_l17, z_l18, z_l19, z_l20, z_l21, z_l22, z_l23, z_l24, z_l25, z_l26, z_l27, z_l28, z_l32, z_l48, z_l56, z_l57, z_l59, z_l63, z_l64, z_l96, z_l97, z_l122, z_l127, z_l152, z_l158, z_l182, z_l255, z_l256, z_l310, z_l342, z_l406, z_l440, z_l729, z_l800, z_l3960, z_l14336, z_l14592, z_l100000, g_isTest_y M0 ht t0 h1, gO, i2, g_right1 t0, i3, rgt2, thM]
    · have i2 := g_isIn_n h2 (by omega)
      rw [z_l0, z_l1] at i2
      refine ⟨2, nI 0, vF, vT, vRT, vG, vB, vH, nI 0, thM vM 1, ?_, ?_, hI.th (QM.tm _ _), Or.inr (Or.inl ⟨rfl, thM_0 _ _⟩)⟩
      · unfold f_X7_see
        rw [x_test_y ht hT h1, z_o1, if_pos rfl, z_jn, hC.1.2.2.1]
        by_cases c : x2 < 0
        · rw [if_pos c]
          rfl
        · rw [if_neg c, if_neg]
          · rfl
          · rcases h2 with h2 | h2
            · exact absurd h2 c
            · exact Int32.not_lt.mpr h2
      · unfold f_X8_see
        rw [z_l0, z_bn, g_isTest_y M0 ht t0 h1, z_o2, z_jn, ief (by omega) (by omega) (by omega), gO, z_o1, z_l1, i2, z_o1, rgt1, z_o2, if_pos rfl]
        rfl
  · refine ⟨2, nI 0, vF, vT, vRT, vG, vB, vH, nI 0, thM vM 1, ?_, ?_, hI.th (QM.tm _ _), Or.inr (Or.inl ⟨rfl, thM_0 _ _⟩)⟩
    · unfold f_X7_see
      simp (disch := omega) only [z_gt, z_o1, z_o2, z_o3, z_o4, z_o5, z_o6, z_o7, z_o8, z_o9, z_bn, z_jn, nI_add, z_mul, z_sub, z_div, Nat.not_lt_zero, z_cl, z_le, z_lt, z_eq, z_inb, z_nz, z_isB0, z_notJ, z_notI, z_isB1, z_m1, z_pos, z_pos', z_nlt, z_nle', z_m1le, z_m1a, z_nle, z_sI0, z_sI1, z_sI2, z_sI3, z_sJ0, z_sJ1, z_sJ2, z_sJ3, z_sF0, z_sF1, z_sF2, z_sA0, z_sA1, z_sA2, z_sA3, z_sAA, z_sIA, ↓reduceIte, Nat.reduceEqDiff, Nat.reduceLeDiff, Nat.reduceLT, z_l0, z_l1, z_l2, z_l3, z_l4, z_l5, z_l6, z_l7, z_l8, z_l9, z_l10, z_l11, z_l12, z_l13, z_l14, z_l15, z_l16, z_l17, z_l18, z_l19, z_l20, z_l21, z_l22, z_l23, z_l24, z_l25, z_l26, z_l27, z_l28, z_l32, z_l48, z_l56, z_l57, z_l59, z_l63, z_l64, z_l96, z_l97, z_l122, z_l127, z_l152, z_l158, z_l182, z_l255, z_l256, z_l310, z_l342, z_l406, z_l440, z_l729, z_l800, z_l3960, z_l14336, z_l14592, z_l100000, x_test_n hT h1]
    · unfold f_X8_see
      simp (disch := omega) only [z_gt, z_o1, z_o2, z_o3, z_o4, z_o5, z_o6, z_o7, z_o8, z_o9, z_bn, z_jn, nI_add, z_mul, z_sub, z_div, Nat.not_lt_zero, z_cl, z_le, z_lt, z_eq, z_inb, z_nz, z_isB0, z_notJ, z_notI, z_isB1, z_m1, z_pos, z_pos', z_nlt, z_nle', z_m1le, z_m1a, z_nle, z_sI0, z_sI1, z_sI2, z_sI3, z_sJ0, z_sJ1, z_sJ2, z_sJ3, z_sF0, z_sF1, z_sF2, z_sA0, z_sA1, z_sA2, z_sA3, z_sAA, z_sIA, ↓reduceIte, Nat.reduceEqDiff, Nat.reduceLeDiff, Nat.reduceLT, z_l0, z_l1, z_l2, z_l3, z_l4, z_l5, z_l6, z_l7, z_l8, z_l9, z_l10, z_l11, z_l12, z_l13, z_l14, z_l15, z_l16, z_l17, z_l18, z_l19, z_l20, z_l21, z_l22, z_l23, z_l24, z_l25, z_l26, z_l27, z_l28, z_l32, z_l48, z_l56, z_l57, z_l59, z_l63, z_l64, z_l96, z_l97, z_l122, z_l127, z_l152, z_l158, z_l182, z_l255, z_l256, z_l310, z_l342, z_l406, z_l440, z_l729, z_l800, z_l3960, z_l14336, z_l14592, z_l100000, g_isTest_n M0 ht t0 h1, thM]
