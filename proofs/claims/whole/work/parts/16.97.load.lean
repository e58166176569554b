/-! load, on both sides -/
theorem GR.of {r s : Nat → Int32} {vC vT : Vs} (hG : GR r vC vT) (h : ∀ k, k < 440 → s k = r k) : GR s vC vT := by
  obtain ⟨hw, ht, hC, hT⟩ := hG
  have hnf := hw.nf
  have hlow : ∀ k, k < 182 → k ≠ 4 → s k = r k := fun k h1 _ => h k (by omega)
  exact ⟨hw.of hlow, ht.of hnf.2.2.1 (h 0 (by omega)) (h 4 (by omega)) (fun k _ h2 => h k h2), hC.of hw hlow, hT.of hnf.2.2.1 ht.1.2 (h 0 (by omega)) (h 2 (by omega)) (h 4 (by omega)) (fun k _ h2 => h k h2)⟩
theorem g_upto_n {x : Int32} {n : Nat} (h : x < 0 ∨ nI (n + 1) ≤ x) (hn : n < 2147483647) : f_X8_isIn x (0 : Int32) (nI n) = some (nI 0) := by
  have e := g_isIn_n h (by omega)
  have e2 : nI (n + 1) - (1 : Int32) = nI n := by rw [z_l1, z_sub (by omega)]; rfl
  rw [e2] at e
  exact e
theorem cls_upto {α : Type} {x : Int32} {n : Nat} (h : x < 0 ∨ nI (n + 1) ≤ x) (hn : n < 2147483647) (a b : α) : (if x < 0 then a else if x ≤ nI n then b else a) = a := by
  by_cases c : x < 0
  · rw [if_pos c]
  · obtain ⟨j, hj, rfl⟩ := nI_of c
    have h2 : nI (n + 1) ≤ nI j := by
      rcases h with h | h
      · exact absurd h c
      · exact h
    rw [z_le (by omega) (by omega)] at h2
    rw [if_neg c, iff_ (by omega) (by omega)]
theorem HX.ar {v v' : Vs} {n : Nat} {h : Hv} (hx : HX v n h) (h4 : v'.1 4 = v.1 4) (ha : v'.2.1 1 = v.2.1 1) : HX v' n h := by
  obtain ⟨u, x, a, b, c, d, e, f⟩ := hx
  have er : ∀ m, rwv v' m = rwv v m := fun m => rwv_eq (fun k _ => by rw [ha])
  exact ⟨u, x, h4.trans a, b, c, d, e, fun j h1 h2 => by rw [er]; exact f j h1 h2⟩
theorem q_load {vM vF vC vT vRT vG vRF vD : Vs} {vH : Hv} (vE vU : Vs) (hI : INV vM vF vC vT vRT vG vRF vD vH) (x1 : Int32) :
    ∃ c x vF' vC' vT' vD' vE' vU' vH' y vM', f_X7_load vF vC vT vD vE vU vH x1 = some (c, x, vF', vC', vT', vD', vE', vU', vH') ∧ f_X8_load vM x1 = some (y, vM') ∧ INV vM' vF' vC' vT' vRT vG vRF vD' vH' ∧ ((c = 0 ∧ vM'.1 0 = nI 0 ∧ x = y) ∨ (c = 1 ∧ vM'.1 0 = nI 1)) := by
  obtain ⟨n, hn3, hn9, hG, hF, hH, L, l1, l2, l3, l4, l5⟩ := id hI
  obtain ⟨v1, hv1⟩ : ∃ v1 : Vs, v1 = sF vM 0 (0 : Int32) := ⟨_, rfl⟩
  have t0 : v1.1 0 = nI 0 := by rw [hv1]; exact z_sF1 _ _ _
  have l12 : v1.1 12 = nI L := by rw [hv1, z_sF2 _ _ _ (by decide)]; exact l1
  have Y0 : f_X8_load vM x1 = o1 (f_X8_isIn x1 (0 : Int32) (nI L)) (fun (r2 : Int32) => o2 (f_X8_right v1 r2 (1 : Int32)) (fun (r4 : Int32) (v5 : Vs) => if r4 = 0 then some ((0 : Int32), v5) else o2 (f_X8_readsAll (sF (sF (sF (sF (sF v5 13 x1) 14 (0 : Int32)) 12 (0 : Int32)) 15 (0 : Int32)) 16 (-1 : Int32))) (fun (r13 : Int32) (v14 : Vs) => if r13 = 0 then some ((v14.1 15), v14) else o1 (f_X8_change v14) (fun (v17 : Vs) => lp f_X8_load_L67 (fun _ _ => none) FU (0 : Int32) v17)))) := by
    unfold f_X8_load
    simp only [bn]
    rw [← hv1, l12]
  rw [Y0]
  rcases in_or x1 (n := L + 1) (by omega) with ⟨M, h1, rfl⟩ | h1
  · have ei : f_X8_isIn (nI M) (0 : Int32) (nI L) = some (nI 1) := by
      rw [z_l0, isIn_at (by omega) (by omega) (by omega), if_pos ⟨Nat.zero_le _, by omega⟩]
    rw [ei, z_o1, g_right1 t0, z_o2, if_neg (show ¬ nI 1 = (0 : Int32) by decide)]
    obtain ⟨w, hw⟩ : ∃ w, w = sF (sF (sF (sF (sF v1 13 (nI M)) 14 (0 : Int32)) 12 (0 : Int32)) 15 (0 : Int32)) 16 (-1 : Int32) := ⟨_, rfl⟩
    rw [← hw]
    have w13 : w.1 13 = nI M := by rw [hw, z_sF2 _ _ _ (by decide), z_sF2 _ _ _ (by decide), z_sF2 _ _ _ (by decide), z_sF2 _ _ _ (by decide), z_sF1]
    have w14 : w.1 14 = nI 0 := by rw [hw, z_sF2 _ _ _ (by decide), z_sF2 _ _ _ (by decide), z_sF2 _ _ _ (by decide), z_sF1]; rfl
    have w12 : w.1 12 = nI 0 := by rw [hw, z_sF2 _ _ _ (by decide), z_sF2 _ _ _ (by decide), z_sF1]; rfl
    have w15 : w.1 15 = nI 0 := by rw [hw, z_sF2 _ _ _ (by decide), z_sF1]; rfl
    have w16 : w.1 16 = im1 := by rw [hw, z_sF1]; rfl
    have wj : ∀ j, j ≠ 0 → j ≠ 12 → j ≠ 13 → j ≠ 14 → j ≠ 15 → j ≠ 16 → w.1 j = vM.1 j := fun j a b c d e f => by rw [hw, z_sF2 _ _ _ f, z_sF2 _ _ _ e, z_sF2 _ _ _ b, z_sF2 _ _ _ d, z_sF2 _ _ _ c, hv1, z_sF2 _ _ _ a]
    have w0 : w.1 0 = nI 0 := by rw [hw, z_sF2 _ _ _ (by decide), z_sF2 _ _ _ (by decide), z_sF2 _ _ _ (by decide), z_sF2 _ _ _ (by decide), z_sF2 _ _ _ (by decide)]; exact t0
    have wa : w.2 = vM.2 := by rw [hw, hv1]; rfl
    have hB : ∀ i, i < M → vD.2.1 3 i = nI (nn (vD.2.1 3 i)) ∧ nn (vD.2.1 3 i) < 256 := fun i hi => by
      obtain ⟨b, hb, e⟩ := (l4 i (by omega)).2
      rw [e, nn_nI (by omega)]
      exact ⟨rfl, hb⟩
    have hDM : DM (fun i => nn (vD.2.1 3 i)) M w := ⟨w13, by omega, fun i hi => by
      rw [wa, (l4 i (by omega)).1]
      exact hB i hi⟩
    have clsX : ∀ r, f_X5_read vD vE vU (nI M) = r → f_X7_load vF vC vT vD vE vU vH (nI M) = o4 r (fun (r6 : Int32) (vD_7 : Vs) (vE_8 : Vs) (vU_9 : Vs) => if r6 = 0 then o1 (f_X1_push vC vT vH) (fun (vH_12 : Hv) => o2 (f_X4_copyFrom vC vT vE_8 vU_9) (fun (vC_14 : Vs) (vT_15 : Vs) => o1 (f_X7_forgetRows vF) (fun (vF_17 : Vs) => some (0, (vC_14.1 1), vF_17, vC_14, vT_15, vD_7, vE_8, vU_9, vH_12)))) else some (0, r6, vF, vC, vT, vD_7, vE_8, vU_9, vH)) := fun r hr => by
      unfold f_X7_load
      rw [z_jn, if_neg (nI_pos (by omega)), l2, ift (show M ≤ L by omega) (by omega), hr]
    rcases j_read vE vU l2 (show M ≤ L by omega) l3 hB hDM w14 w15 w16 with ⟨vD', vC', vT', vM', q', e1, e2, hC, hF', hq, hG'⟩ | ⟨vD', vC', vT', vM', c, x, e1, e2, hC, hF', hc⟩
    · obtain ⟨f15, f16, p0, p3, p4, p12, pa⟩ := hF'
      have n3 : vM'.1 3 = nI n := by rw [p3, wj 3 (by decide) (by decide) (by decide) (by decide) (by decide) (by decide)]; exact hn3
      have ra : vM'.2.1 1 = vM.2.1 1 := by rw [pa, wa]
      have rw' : rwv vM' n = rwv vM n := rwv_eq (fun k hk => by rw [ra])
      have hG2 : GR (rwv vM' n) vC vT := by rw [rw']; exact hG
      have hH2 : HX vM' n vH := hH.ar (by rw [p4, wj 4 (by decide) (by decide) (by decide) (by decide) (by decide) (by decide)]) ra
      obtain ⟨v17, h', ec, ep, m17, k1, k2, hHX⟩ := q_change n3 hn9 hG2 hH2
      obtain ⟨gw, gt, gC, gT⟩ := id hG'
      have hnf := gw.nf
      obtain ⟨c14, eC, hC14⟩ := x_copyC (vC := vC) gw gC
      obtain ⟨t15, eT, hT15⟩ := x_copyT (vT := vT) gt gT
      have key : Ok (lp f_X8_load_L67 (fun _ _ => none) FU (nI 0) v17) (fun r => r.1 = nI (NW q') ∧ MS r.2 ((n + 1) % 9) q' ∧ KR ((n + 1) % 9) v17 r.2) := by
        refine h_copy m17 (q := q') (fun k hk => by rw [k2 2 (by decide)]; exact hq k hk) (fun k v' s hk => ?_) (fun v' s hm hK => ?_)
        · unfold f_X8_load_L67
          rw [z_l440, iff_ (show ¬ 440 ≤ k by omega) (by omega)]
        · unfold f_X8_load_L67
          rw [z_l440, ift (Nat.le_refl _) (by omega), g_wires hm gw, z_o1]
          exact ok_some ⟨rfl, hm, hK⟩
      obtain ⟨⟨y, v''⟩, ey, hy, hm, hK⟩ := key
      have hy : y = nI (NW q') := hy
      have hm : MS v'' ((n + 1) % 9) q' := hm
      have hK : KR ((n + 1) % 9) v17 v'' := hK
      have kk : ∀ j, j ≠ 3 → j ≠ 4 → v''.1 j = vM'.1 j := fun j a b => by rw [hK.1]; exact k1 j a b
      have ec4 : f_X4_copyFrom vC vT vC' vT' = some (c14, t15) := by
        unfold f_X4_copyFrom
        rw [eC, z_o1, eT, z_o1]
      refine ⟨0, c14.1 1, sF (sF vF 5 (0 : Int32)) 6 (0 : Int32), c14, t15, vD', vC', vT', h', y, v'', ?_, ?_, ⟨(n + 1) % 9, hm.1, hm.2.1, GR.of ⟨gw, gt, hC14, hT15⟩ (fun k hk => hm.rw hk), hF.none (z_sF1 _ _ _) ?_ rfl, hHX v'' hK, 0, ?_, hC.2.2, by omega, fun i hi => by omega, ?_⟩, Or.inl ⟨rfl, ?_, ?_⟩⟩
      · rw [clsX _ e1, z_o4, if_pos (show nI 0 = (0 : Int32) from rfl), ep, z_o1, ec4, z_o2]
        rfl
      · rw [e2, z_o2, if_neg (show ¬ nI 1 = (0 : Int32) by decide), ec, z_o1]
        exact ey
      · rw [z_sF2 _ _ _ (by decide), z_sF1]
      · rw [kk 12 (by decide) (by decide), p12]; exact w12
      · rw [kk 16 (by decide) (by decide), f16, hC.2.1]
      · rw [kk 0 (by decide) (by decide), p0]; exact w0
      · rw [hy, hC14.1.2.1]
    · obtain ⟨f15, f16, p0, p3, p4, p12, pa⟩ := hF'
      have n3 : vM'.1 3 = nI n := by rw [p3, wj 3 (by decide) (by decide) (by decide) (by decide) (by decide) (by decide)]; exact hn3
      have ra : vM'.2.1 1 = vM.2.1 1 := by rw [pa, wa]
      have rw' : rwv vM' n = rwv vM n := rwv_eq (fun k hk => by rw [ra])
      have hG2 : GR (rwv vM' n) vC vT := by rw [rw']; exact hG
      have hF2 : FI (rwv vM' n) vF vRT vG vRF := by rw [rw']; exact hF
      have hH2 : HX vM' n vH := hH.ar (by rw [p4, wj 4 (by decide) (by decide) (by decide) (by decide) (by decide) (by decide)]) ra
      refine ⟨0, c, vF, vC, vT, vD', vC', vT', vH, c, vM', ?_, ?_, ⟨n, n3, hn9, hG2, hF2, hH2, 0, p12.trans w12, hC.2.2, by omega, fun i hi => by omega, f16.trans hC.2.1.symm⟩, Or.inl ⟨rfl, p0.trans w0, rfl⟩⟩
      · rw [clsX _ e1, z_o4, if_neg hc]
      · rw [e2, z_o2, if_pos (show nI 0 = (0 : Int32) from rfl), f15]
  · rw [g_upto_n h1 (by omega), z_o1, z_l1, g_right0 t0 (by omega) (by omega), z_o2, if_pos (show nI 0 = (0 : Int32) from rfl)]
    refine ⟨1, nI 0, vF, vC, vT, vD, vE, vU, vH, nI 0, thM vM 1, ?_, ?_, hI.th (QM.tm _ _), Or.inr ⟨rfl, thM_0 _ _⟩⟩
    · unfold f_X7_load
      rw [z_jn, l2, cls_upto h1 (by omega)]
      rfl
    · rw [hv1]
      rfl
