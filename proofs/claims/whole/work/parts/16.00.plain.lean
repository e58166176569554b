/-! the plain row, the cleared circuit, the first state -/
def PLr (k : Nat) : Int32 := if 8 ≤ k ∧ k < 32 then im1 else if 310 ≤ k ∧ k < 406 then nI 2 else nI 0
def P1 (i : Nat) : Nat → Int32 := upd (upd PLr 0 (nI i)) 1 (nI i)
theorem h_plain (v : Vs) : ∃ f, f_X8_plain v = some (sA v 2 f) ∧ ∀ k, k < 440 → f k = PLr k := by
  have key : Ok (f_X8_plain v) (fun v' => ∃ f, v' = sA v 2 f ∧ ∀ k, k < 440 → f k = PLr k) := by
    unfold f_X8_plain
    refine zl2 (I := fun m x v' => ∃ k f, x = nI k ∧ v' = sA v 2 f ∧ k ≤ 440 ∧ m = 440 - k ∧ ∀ j, j < k → f j = if 310 ≤ j ∧ j < 406 then nI 2 else nI 0) ?_ FU 440 _ _ (by unfold FU; omega) ⟨0, v.2.1 2, rfl, (z_sAs v 2).symm, by omega, by omega, fun j hj => by omega⟩
    rintro m x v' self ⟨k, f, rfl, rfl, hle, rfl, hf⟩ ih
    unfold f_X8_plain_L2
    rw [z_l440]
    by_cases hb : 440 ≤ k
    · rw [ift hb (by omega)]
      refine zl2 (I := fun m x v' => ∃ w f, x = nI w ∧ v' = sA v 2 f ∧ w ≤ 24 ∧ m = 24 - w ∧ ∀ j, j < 440 → f j = if 8 ≤ j ∧ j < 8 + w then im1 else if 310 ≤ j ∧ j < 406 then nI 2 else nI 0) ?_ FU 24 _ _ (by unfold FU; omega) ⟨0, f, rfl, rfl, by omega, by omega, fun j hj => by rw [if_neg (by omega)]; exact hf j (by omega)⟩
      rintro m x v' self2 ⟨w, f, rfl, rfl, hle2, rfl, hf2⟩ ih2
      unfold f_X8_plain_L42
      rw [z_l24]
      by_cases hb2 : 24 ≤ w
      · rw [ift hb2 (by omega)]
        refine ok_some ⟨f, rfl, fun j hj => ?_⟩
        rw [hf2 j hj]
        unfold PLr
        rw [show 8 + w = 32 by omega]
      · rw [iff_ hb2 (by omega), z_l8, nI_add]
        refine ok_gd (z_inb (by omega) (by omega)) ?_
        refine ok_bn ?_
        rw [z_cl (by omega), z_sIA, z_sAA, z_sA2, z_p1]
        refine ih2 _ _ _ (by omega) ⟨w + 1, _, rfl, rfl, by omega, rfl, fun j hj => ?_⟩
        by_cases e : j = 8 + w
        · rw [z_u1 _ _ e, if_pos (by omega)]
          rfl
        · rw [z_u2 _ _ e, hf2 j hj]
          by_cases c : 8 ≤ j ∧ j < 8 + w
          · rw [if_pos c, if_pos (by omega)]
          · rw [if_neg c, if_neg (by omega : ¬ (8 ≤ j ∧ j < 8 + (w + 1)))]
    · rw [iff_ hb (by omega)]
      have st : ∀ t, t = (if 310 ≤ k ∧ k < 406 then nI 2 else nI 0) → Ok (gd (inb (nI k) 440) (bn (sI (sA v 2 f) 2 (nI k).toNatClampNeg t) (fun v20 => self (nI k + (1 : Int32)) v20))) (fun v' => ∃ f, v' = sA v 2 f ∧ ∀ k, k < 440 → f k = PLr k) := by
        rintro t rfl
        refine ok_gd (z_inb (by omega) (by omega)) ?_
        refine ok_bn ?_
        rw [z_cl (by omega), z_sIA, z_sAA, z_sA2, z_p1]
        refine ih _ _ _ (by omega) ⟨k + 1, _, rfl, rfl, by omega, rfl, fun j hj => ?_⟩
        by_cases e : j = k
        · rw [z_u1 _ _ e, e]
        · rw [z_u2 _ _ e]
          exact hf j (by omega)
      rw [z_jn, z_jn, z_l310, z_l406]
      by_cases c1 : k < 310
      · rw [ilt c1 (by omega)]
        exact st _ (by rw [if_neg (by omega)]; rfl)
      · rw [ilf c1 (by omega)]
        by_cases c2 : 406 ≤ k
        · rw [ift c2 (by omega)]
          exact st _ (by rw [if_neg (by omega)]; rfl)
        · rw [iff_ c2 (by omega)]
          exact st _ (by rw [if_pos (by omega)]; rfl)
  obtain ⟨v', e, f, rfl, hf⟩ := key
  exact ⟨f, e, hf⟩
theorem P1_at {i : Nat} (hi : i < 2147483648) : NI (P1 i) = i ∧ NW (P1 i) = i ∧ NO (P1 i) = 0 ∧ NB (P1 i) = 0 ∧ NT (P1 i) = 0 ∧ P1 i 0 = nI i ∧ P1 i 1 = nI i ∧ ∀ k, 2 ≤ k → P1 i k = PLr k := by
  have a : P1 i 0 = nI i := by unfold P1; rw [z_u2 _ _ (by omega), z_u1 _ _ rfl]
  have b : P1 i 1 = nI i := by unfold P1; rw [z_u1 _ _ rfl]
  have c : ∀ k, 2 ≤ k → P1 i k = PLr k := fun k hk => by unfold P1; rw [z_u2 _ _ (by omega), z_u2 _ _ (by omega)]
  have z : ∀ k, 2 ≤ k → k < 8 → nn (P1 i k) = 0 := fun k h1 h2 => by
    rw [c k h1]
    unfold PLr
    rw [if_neg (by omega), if_neg (by omega)]
    rfl
  exact ⟨by show nn (P1 i 0) = i; rw [a, nn_nI hi], by show nn (P1 i 1) = i; rw [b, nn_nI hi], z 2 (by omega) (by omega), z 3 (by omega) (by omega), z 4 (by omega) (by omega), a, b, c⟩
theorem P1_WFc {i : Nat} (h1 : 1 ≤ i) (h8 : i ≤ 8) : WFc (P1 i) := by
  obtain ⟨a, b, c, d, e, f, g, h⟩ := P1_at (i := i) (by omega)
  unfold WFc
  rw [a, b, c, d, f, g, h 2 (by omega), h 3 (by omega)]
  refine ⟨⟨rfl, h1, h8⟩, ⟨rfl, Nat.le_refl _, by omega⟩, ⟨rfl, by omega⟩, ⟨rfl, by omega⟩, fun w hw => ?_, fun w h2 h3 => by omega, fun w k h2 h3 => by omega, fun o ho => by omega, fun b hb => by omega⟩
  rw [h _ (by omega), h _ (by omega)]
  unfold PLr
  rw [if_pos (by omega), if_neg (by omega), if_neg (by omega)]
  exact ⟨rfl, rfl⟩
theorem P1_WFt {i : Nat} (h8 : i ≤ 8) : WFt (P1 i) := by
  obtain ⟨a, b, c, d, e, f, g, h⟩ := P1_at (i := i) (by omega)
  unfold WFt
  rw [e, h 4 (by omega)]
  exact ⟨⟨rfl, by omega⟩, fun t i h1 => by omega, fun t o h1 => by omega⟩
theorem x_clearC (v : Vs) {i : Nat} (h1 : 1 ≤ i) (h8 : i ≤ 8) : ∃ v', f_X0_clear v (nI i) = some v' ∧ RC (P1 i) v' ∧ ∀ w, w < 24 → v'.2.1 7 w = nI 0 ∧ v'.2.1 8 w = nI 0 ∧ v'.2.1 9 w = nI 0 := by
  obtain ⟨a, b, c, d, e, f, g, h⟩ := P1_at (i := i) (by omega)
  show Ok (f_X0_clear v (nI i)) (fun v' => RC (P1 i) v' ∧ ∀ w, w < 24 → v'.2.1 7 w = nI 0 ∧ v'.2.1 8 w = nI 0 ∧ v'.2.1 9 w = nI 0)
  unfold f_X0_clear
  refine ok_bn (ok_bn (ok_bn (ok_bn ?_)))
  refine zl2 (I := fun m x v' => ∃ w, x = nI w ∧ w ≤ 24 ∧ m = 24 - w ∧ v'.1 0 = nI i ∧ v'.1 1 = nI i ∧ v'.1 2 = nI 0 ∧ v'.1 3 = nI 0 ∧ ∀ j, j < w → v'.2.1 4 j = im1 ∧ v'.2.1 5 j = nI 0 ∧ v'.2.1 7 j = nI 0 ∧ v'.2.1 8 j = nI 0 ∧ v'.2.1 9 j = nI 0) ?_ FU 24 _ _ (by unfold FU; omega) ⟨0, rfl, by omega, by omega, ?_, ?_, ?_, ?_, fun j hj => by omega⟩
  · rintro m x v' self ⟨w, rfl, hle, rfl, k0, k1, k2, k3, hz⟩ ih
    unfold f_X0_clear_L22
    rw [z_l24]
    by_cases hb : 24 ≤ w
    · rw [ift hb (by omega)]
      refine ok_some ⟨?_, fun w hw => ⟨(hz w (by omega)).2.2.1, (hz w (by omega)).2.2.2.1, (hz w (by omega)).2.2.2.2⟩⟩
      unfold RC
      rw [a, b, c, d]
      refine ⟨⟨k0, k1, k2, k3⟩, fun w hw => ?_, fun w k h2 h3 => by omega, fun w hw => ?_, fun o ho => by omega, fun b hb => by omega⟩
      · obtain ⟨z4, z5, z7, z8, z9⟩ := hz w (by omega)
        rw [z4, z5, h _ (by omega), h _ (by omega)]
        unfold PLr
        rw [if_pos (by omega), if_neg (by omega), if_neg (by omega)]
        exact ⟨rfl, rfl⟩
      · obtain ⟨z4, z5, z7, z8, z9⟩ := hz w (by omega)
        rw [z7, z8, z9, lev_in (by rw [a]; exact hw), bel_in (by rw [a]; exact hw), useN_in i (by rw [a]; exact Nat.le_refl _)]
        exact ⟨rfl, rfl, rfl⟩
    · rw [iff_ hb (by omega)]
      have hin : inb (nI w) 24 = true := z_inb (by omega) (by omega)
      refine ok_gd hin (ok_bn (ok_gd hin (ok_bn (ok_gd hin (ok_bn (ok_gd hin (ok_bn (ok_gd hin (ok_bn ?_)))))))))
      rw [z_cl (by omega), z_p1]
      refine ih _ _ _ (by omega) ⟨w + 1, rfl, by omega, rfl, k0, k1, k2, k3, fun j hj => ?_⟩
      simp only [z_sI2, z_sI3, ne_eq, Nat.reduceEqDiff, not_false_eq_true]
      by_cases e : j = w
      · rw [z_u1 _ _ e, z_u1 _ _ e, z_u1 _ _ e, z_u1 _ _ e, z_u1 _ _ e]
        exact ⟨rfl, rfl, rfl, rfl, rfl⟩
      · rw [z_u2 _ _ e, z_u2 _ _ e, z_u2 _ _ e, z_u2 _ _ e, z_u2 _ _ e]
        exact hz j (by omega)
  · rw [z_sF2 _ _ _ (by decide), z_sF2 _ _ _ (by decide), z_sF2 _ _ _ (by decide), z_sF1]
  · rw [z_sF2 _ _ _ (by decide), z_sF2 _ _ _ (by decide), z_sF1]
  · rw [z_sF2 _ _ _ (by decide), z_sF1]
    rfl
  · rw [z_sF1]
    rfl
theorem RT_0 {i : Nat} (h8 : i ≤ 8) {v : Vs} (h0 : v.1 0 = nI 0) (h : ∀ o, o < 6 → v.2.1 3 o = nI 0 ∧ v.2.1 4 o = nI 0) : RT (P1 i) v := by
  obtain ⟨a, b, c, d, e, f, g, q⟩ := P1_at (i := i) (by omega)
  unfold RT
  rw [e]
  refine ⟨h0, fun t i h1 => by omega, fun o t ho ht => ?_⟩
  rw [(h o ho).1, (h o ho).2, bI_0]
  have : ¬ t < 0 := by omega
  simp
theorem x_clearT (v : Vs) {i : Nat} (h8 : i ≤ 8) : ∃ v', f_X6_clear v = some v' ∧ RT (P1 i) v' := by
  show Ok (f_X6_clear v) (fun v' => RT (P1 i) v')
  unfold f_X6_clear
  refine ok_bn ?_
  refine ok_o1 (P := fun v' => RT (P1 i) v') ?_ (fun a ha => ok_some ha)
  unfold f_X6_clearSeen
  refine zl2 (I := fun m x v' => ∃ o, x = nI o ∧ o ≤ 6 ∧ m = 6 - o ∧ v'.1 0 = nI 0 ∧ ∀ u, u < o → v'.2.1 3 u = nI 0 ∧ v'.2.1 4 u = nI 0) ?_ FU 6 _ _ (by unfold FU; omega) ⟨0, rfl, by omega, by omega, by rw [z_sF1]; rfl, fun u hu => by omega⟩
  rintro m x v' self ⟨o, rfl, hle, rfl, f1, hz⟩ ih
  unfold f_X6_clearSeen_L2
  rw [z_l6]
  by_cases hb : 6 ≤ o
  · rw [ift hb (by omega)]
    exact ok_some (RT_0 h8 f1 (fun u hu => hz u (by omega)))
  · rw [iff_ hb (by omega)]
    refine ok_gd (z_inb (by omega) (by omega)) ?_
    refine ok_bn ?_
    refine ok_gd (z_inb (by omega) (by omega)) ?_
    refine ok_bn ?_
    rw [z_cl (by omega), z_l1, nI_add]
    refine ih _ _ _ (by omega) ⟨o + 1, rfl, by omega, rfl, f1, fun u hu => ?_⟩
    rw [z_sI3 _ _ _ _ (by decide), z_sI2, z_sI2, z_sI3 _ _ _ _ (by decide)]
    by_cases e : u = o
    · rw [z_u1 _ _ e, z_u1 _ _ e]
      exact ⟨rfl, rfl⟩
    · rw [z_u2 _ _ e, z_u2 _ _ e]
      exact hz u (by omega)
/-- copying the row that was read into the row that is now -/
theorem h_copy {v : Vs} {n : Nat} {r q : Nat → Int32} (h : MS v n r) (hq : ∀ k, k < 440 → v.2.1 2 k = q k) {β : Type} {self : (Int32 → Vs → Option β) → Int32 → Vs → Option β} {Q : β → Prop} (hb : ∀ k v' (s : Int32 → Vs → Option β), k < 440 → self s (nI k) v' = gd (inb (nI k) 440) (o1 (f_X8_put v' (nI k) (v'.2.1 2 (nI k).toNatClampNeg)) (fun v'' => s (nI k + (1 : Int32)) v''))) (he : ∀ v' (s : Int32 → Vs → Option β), MS v' n q → KR n v v' → Ok (self s (nI 440) v') Q) : Ok (lp self (fun _ _ => none) FU (nI 0) v) Q := by
  refine zl2 (I := fun m x v' => ∃ k s, x = nI k ∧ k ≤ 440 ∧ m = 440 - k ∧ MS v' n s ∧ KR n v v' ∧ ∀ j, j < k → s j = q j) ?_ FU 440 _ _ (by unfold FU; omega) ⟨0, r, rfl, by omega, by omega, h, KR.rf _ _, fun j hj => by omega⟩
  rintro m x v' s ⟨k, t, rfl, hle, rfl, hm, hK, ht⟩ ih
  by_cases e : k = 440
  · subst e
    exact he v' s (hm.cg (fun j hj => ht j hj)) hK
  · rw [hb k v' s (by omega)]
    refine ok_gd (z_inb (by omega) (by omega)) ?_
    rw [z_cl (by omega), hK.2.1 2 (by decide), hq k (by omega)]
    obtain ⟨v2, e2, m2, K2⟩ := h_put hm (k := k) (by omega) (q k)
    refine ok_o1e e2 ?_
    rw [z_p1]
    refine ih _ _ _ (by omega) ⟨k + 1, _, rfl, by omega, rfl, m2, hK.tr K2, fun j hj => ?_⟩
    by_cases e : j = k
    · rw [z_u1 _ _ e, e]
    · rw [z_u2 _ _ e]
      exact ht j (by omega)
theorem h_initT {v : Vs} (h3 : v.1 3 = nI 0) : ∃ v', f_X8_initT v = some v' ∧ MS v' 0 (P1 1) ∧ v'.1 = v.1 := by
  obtain ⟨f, e, hf⟩ := h_plain v
  show Ok (f_X8_initT v) (fun v' => MS v' 0 (P1 1) ∧ v'.1 = v.1)
  unfold f_X8_initT
  refine ok_o1e e ?_
  refine ok_gd (by decide) ?_
  refine ok_bn ?_
  refine ok_gd (by decide) ?_
  refine ok_bn ?_
  have hq : ∀ k, k < 440 → (sI (sI (sA v 2 f) 2 ((0 : Int32)).toNatClampNeg (1 : Int32)) 2 ((1 : Int32)).toNatClampNeg (1 : Int32)).2.1 2 k = P1 1 k := fun k hk => by
    rw [z_sI2, z_sI2, z_sA2]
    show upd (upd f 0 (nI 1)) 1 (nI 1) k = upd (upd PLr 0 (nI 1)) 1 (nI 1) k
    by_cases e1 : k = 1
    · rw [z_u1 _ _ e1, z_u1 _ _ e1]
    · rw [z_u2 _ _ e1, z_u2 _ _ e1]
      by_cases e0 : k = 0
      · rw [z_u1 _ _ e0, z_u1 _ _ e0]
      · rw [z_u2 _ _ e0, z_u2 _ _ e0, hf k hk]
  refine h_copy (v := sI (sI (sA v 2 f) 2 ((0 : Int32)).toNatClampNeg (1 : Int32)) 2 ((1 : Int32)).toNatClampNeg (1 : Int32)) (n := 0) (r := fun k => (sI (sI (sA v 2 f) 2 ((0 : Int32)).toNatClampNeg (1 : Int32)) 2 ((1 : Int32)).toNatClampNeg (1 : Int32)).2.1 1 (440 * 0 + k)) (q := P1 1) ⟨h3, by omega, fun k _ => rfl⟩ hq ?_ ?_
  · intro k v' s hk
    unfold f_X8_initT_L138
    rw [z_l440, iff_ (by omega) (by omega)]
  · intro v' s hm hK
    unfold f_X8_initT_L138
    rw [z_l440, ift (by omega) (by omega)]
    exact ok_some ⟨hm, hK.1⟩
theorem INV_0 : INV mV1 zV cV1 zV (sF zV 4 1) zV (sF zV 4 4) (sF zV 2 (-1)) hV0 := by
  have hmV : f_X8_initT mV0 = some mV1 := (Option.some_get mV_some).symm
  obtain ⟨v', e, hm, h1⟩ := h_initT (v := mV0) rfl
  have ee : v' = mV1 := Option.some.inj (e.symm.trans hmV)
  rw [ee] at hm h1
  have hcl : f_X0_clear zV 1 = some cV1 := (Option.some_get cl_some).symm
  obtain ⟨w', e2, hC, -⟩ := x_clearC zV (i := 1) (by omega) (by omega)
  have e2 : f_X0_clear zV 1 = some w' := e2
  have ee2 : w' = cV1 := Option.some.inj (e2.symm.trans hcl)
  rw [ee2] at hC
  have er : ∀ k, k < 440 → rwv mV1 0 k = P1 1 k := fun k hk => hm.rw hk
  have hT : RT (P1 1) zV := RT_0 (by omega) rfl (fun _ _ => ⟨rfl, rfl⟩)
  have hw := P1_WFc (i := 1) (by omega) (by omega)
  have ht := P1_WFt (i := 1) (by omega)
  have hn := hw.nf
  refine ⟨0, hm.1, by omega, ⟨hw.of (fun k h1 _ => er k (by omega)), ht.of hn.2.2.1 (er 0 (by omega)) (er 4 (by omega)) (fun k _ h => er k h), hC.of hw (fun k h1 _ => er k (by omega)), hT.of hn.2.2.1 ht.1.2 (er 0 (by omega)) (er 2 (by omega)) (er 4 (by omega)) (fun k _ h => er k h)⟩, ⟨fun q => absurd rfl q, fun q => absurd rfl q, rfl, rfl, fun _ _ => rfl⟩, ⟨0, 0, by rw [h1]; rfl, by omega, rfl, rfl, by omega, fun j h1 h2 => by omega⟩, ⟨0, by rw [h1]; rfl, rfl, by omega, fun i hi => by omega, by rw [h1]; rfl⟩⟩
