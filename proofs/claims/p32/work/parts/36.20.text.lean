/-! the law writes the text, gate by gate -/
theorem zl6 {a0 a1 a2 a3 a4 a5 β : Type} {body : (a0 → a1 → a2 → a3 → a4 → a5 → Option β) → a0 → a1 → a2 → a3 → a4 → a5 → Option β} {bot : a0 → a1 → a2 → a3 → a4 → a5 → Option β} {Q : β → Prop} (I : Nat → a0 → a1 → a2 → a3 → a4 → a5 → Prop) (hs : ∀ n x0 x1 x2 x3 x4 x5 (self : a0 → a1 → a2 → a3 → a4 → a5 → Option β), I n x0 x1 x2 x3 x4 x5 → (∀ m y0 y1 y2 y3 y4 y5, m < n → I m y0 y1 y2 y3 y4 y5 → Ok (self y0 y1 y2 y3 y4 y5) Q) → Ok (body self x0 x1 x2 x3 x4 x5) Q) : ∀ N n x0 x1 x2 x3 x4 x5, n < N → I n x0 x1 x2 x3 x4 x5 → Ok (lp body bot N x0 x1 x2 x3 x4 x5) Q := by
  intro N
  induction N with
  | zero => intro n x0 x1 x2 x3 x4 x5 h; omega
  | succ N ih => intro n x0 x1 x2 x3 x4 x5 h hi; exact hs n x0 x1 x2 x3 x4 x5 _ hi (fun m y0 y1 y2 y3 y4 y5 hm hi' => ih m y0 y1 y2 y3 y4 y5 (by omega) hi')
set_option maxRecDepth 100000 in
theorem ar_1 {s b g PN : Nat} (h1 : s ≤ 5000 + 5000 * g) (h2 : PN ≤ 4) (h3 : b ≤ s + PN + 400 + 400 + 3600) : b ≤ 5000 + 5000 * (g + 1) := by omega
theorem nm_len : ∀ k, k < 9 → (wdS (nmS k)).length ≤ 4 ∧ nmS k < 27 ∧ (wdS 11).length = 5 := by decide +kernel
theorem gt_len {K n : Nat} {o : Nat → Nat} (hK : K < 9) (hn : n ≤ 4) : (gtT K n o).length ≤ 18 := by
  obtain ⟨h1, h2, h3⟩ := nm_len K hK
  unfold gtT
  rw [List.length_append, List.length_append, List.length_append, opT_len, h3]
  simp only [List.length_cons, List.length_nil]
  omega
theorem gts_len {K n : Nat → Nat} {o : Nat → Nat → Nat} (hK : ∀ g, K g < 9) (hn : ∀ g, n g ≤ 4) : ∀ g, (gtsT K n o g).length ≤ 18 * g
  | 0 => Nat.le_refl _
  | g + 1 => by
    have h := gts_len (K := K) (n := n) (o := o) hK hn g
    have h2 := gt_len (K := K g) (n := n g) (o := o g) (hK g) (hn g)
    have e : (gtsT K n o (g + 1)).length = (gtsT K n o g).length + (gtT (K g) (n g) (o g)).length := List.length_append
    omega
theorem hd_len (I : Nat) : (hdT I).length = 10 := by
  unfold hdT
  rw [List.length_append, List.length_append, show (wdS 8).length = 8 by decide +kernel, show (wdS 2).length = 1 by decide +kernel]
  rfl
theorem BS.cast {vU vV : Vs} {T T' : List Nat} (h : BS vU vV T) (e : T = T') : BS vU vV T' := e ▸ h
def QR (L : Nat) (X : Nat → Int32) (g : Nat) (v : Vs) : Prop := v.1 8 = nI (pG L X) ∧ v.1 9 = nI g ∧ ∀ j, j < g → v.1 (20 + j) = nI (pn L X j) ∧ ∀ k, k < pn L X j → v.2.1 j k = nI (po L X j k)
theorem s_179 {L : Nat} {X : Nat → Int32} {g : Nat} (hg : g < pG L X) {r5 : Int32} (h5 : (2 : Int32) + r5 = nI (pI L X)) {T : List Nat} (hT : T.length ≤ 120) {vK : Vs} {self72 : Int32 → Vs → Vs → Vs → Vs → Nat → Nat → Option Unit} {Q : Unit → Prop} {vU vV vQ : Vs} {kc ks : Nat} (hB : BS vU vV (T ++ (wdS 11 ++ wdS (nmS (pK L X g))))) (q8 : vQ.1 8 = nI (pG L X)) (q9 : vQ.1 9 = nI (g + 1)) (qg : vQ.1 (20 + g) = nI (pn L X g)) (hkc : kc ≤ 1000) (hks : ks ≤ 100000)
    (hk : ∀ vU' vV' vQ' kc' ks', BS vU' vV' (T ++ gtT (pK L X g) (pn L X g) (po L X g)) → vQ'.1 = vQ.1 → (∀ j, j ≠ g → vQ'.2.1 j = vQ.2.1 j) → (∀ k, k < pn L X g → vQ'.2.1 g k = nI (po L X g k)) → kc' ≤ kc + 9 → ks' ≤ ks + 3600 → Ok (self72 (nI (g + 1)) vU' vV' vK vQ' kc' ks') Q) :
    Ok (lp (f_L_law_L179 r5 (nI g) self72 (cX L X (2 + g)) vK (nI (pn L X g))) (fun _ _ _ _ _ _ => none) FU (0 : Int32) vU vV vQ kc ks) Q := by
  obtain ⟨⟨i2, i3⟩, ⟨g3, g6⟩, hK, hf1, hf2, hpo, hn4, hn1⟩ := p_ok L X
  have hn4 := hn4 g
  have hnl := nm_len _ (hK g)
  refine zl6 (I := fun m x u w q c s => ∃ k, x = nI k ∧ k ≤ pn L X g ∧ BS u w (T ++ (wdS 11 ++ wdS (nmS (pK L X g)) ++ opT (po L X g) k)) ∧ q.1 = vQ.1 ∧ (∀ j, j ≠ g → q.2.1 j = vQ.2.1 j) ∧ (∀ j, j < k → q.2.1 g j = nI (po L X g j)) ∧ c ≤ kc + 2 * k ∧ s ≤ ks + 800 * k ∧ m = pn L X g - k) ?_ FU (pn L X g) _ _ _ _ _ _ (by unfold FU; omega) ⟨0, rfl, by omega, hB.cast (by show _ = T ++ (wdS 11 ++ wdS (nmS (pK L X g)) ++ []); rw [List.append_nil]), rfl, fun _ _ => rfl, fun j hj => by omega, by omega, by omega, by omega⟩
  rintro m x u w q c s self ⟨k, rfl, hle, hb, hq, hqj, hqk, hc, hs, rfl⟩ ih
  have hlen : (T ++ (wdS 11 ++ wdS (nmS (pK L X g)) ++ opT (po L X g) k)).length ≤ 137 := by
    rw [List.length_append, List.length_append, List.length_append, opT_len, hnl.2.2]
    omega
  unfold f_L_law_L179
  by_cases hkn : pn L X g ≤ k
  · obtain rfl : k = pn L X g := by omega
    rw [ift hkn (by omega)]
    refine ok_gd (decide_eq_true ⟨by omega, by omega⟩) ?_
    rw [z_l59]
    refine ok_o2 (b_appendC hb (x := 59) (by omega) (by omega)) (fun a b hab => ?_)
    rw [z_l1, nI_add]
    exact hk _ _ _ _ _ (BS.cast hab (by unfold gtT; simp only [List.append_assoc])) hq hqj hqk (by omega) (by omega)
  · rw [iff_ hkn (by omega), hq, q8, q9, z_cl (by omega), z_cl (by omega), z_cl (by omega)]
    have hin : (inb (nI g) (pG L X) && decide (g < g + 1)) = true := by rw [Bool.and_eq_true]; exact ⟨z_inb hg (by omega), decide_eq_true (by omega)⟩
    refine ok_gd hin (ok_gd (decide_eq_true ⟨by omega, by omega⟩) ?_)
    rw [z_l6, z_l5, z_mul, nI_add, h5, nI_add]
    have hbd := l_bound (cX L X (2 + g) >>> (nI (6 + 5 * k) &&& 31)) (n := pI L X + g) (by omega) (by omega)
    have hbd : f_L_bound (cX L X (2 + g) >>> (nI (6 + 5 * k) &&& 31)) (nI (pI L X + g)) = some (nI (po L X g k)) := hbd
    have hpk := hpo g k
    rw [hbd, z_o1, qg, z_cl (by omega), z_cl (by omega)]
    have hin2 : inb (nI k) (pn L X g) = true := z_inb (by omega) (by omega)
    refine ok_gd hin2 (ok_bn (ok_gd (decide_eq_true ⟨by omega, by omega⟩) ?_))
    rw [z_l32]
    refine ok_o2 (b_appendC hb (x := 32) (by omega) (by omega)) (fun a b hab => ?_)
    have h1 : (sI q g k (nI (po L X g k))).1 = vQ.1 := hq
    have h2 : (sI q g k (nI (po L X g k))).2.1 g k = nI (po L X g k) := by rw [z_sI2, z_u1 _ _ rfl]
    rw [h1, h2, q8, q9, qg, z_cl (by omega), z_cl (by omega), z_cl (by omega)]
    refine ok_gd hin (ok_gd hin2 (ok_gd (decide_eq_true ⟨by omega, by omega⟩) ?_))
    refine ok_o2 (b_appendI hab (d := po L X g k) (by omega) (by rw [List.length_append]; simp only [List.length_cons, List.length_nil]; omega)) (fun a2 b2 hab2 => ?_)
    rw [z_l1, nI_add]
    refine ih _ _ _ _ _ _ _ (by omega) ⟨k + 1, rfl, by omega, BS.cast hab2 ?_, hq, fun j hj => ?_, fun j hj => ?_, by omega, by omega, rfl⟩
    · show _ = T ++ (wdS 11 ++ wdS (nmS (pK L X g)) ++ (opT (po L X g) k ++ [32] ++ [48 + po L X g k]))
      simp only [List.append_assoc]
    · rw [z_sI3 _ _ _ _ hj]
      exact hqj j hj
    · rw [z_sI2]
      by_cases e : j = k
      · rw [e, z_u1 _ _ rfl]
      · rw [z_u2 _ _ e]
        exact hqk j (by omega)
set_option maxHeartbeats 1000000 in
theorem s_70 {L : Nat} {X : Nat → Int32} (hL : L ≤ 260) {r5 r13 : Int32} (h5 : (2 : Int32) + r5 = nI (pI L X)) (h13 : (3 : Int32) + r13 = nI (pG L X)) {vM vP vU vV vK vQ : Vs} {Q : Unit → Prop} {kc ks : Nat} (hkc : kc ≤ 100) (hks : ks ≤ 5000) (hB : BS vU vV (hdT (pI L X))) (hk9 : vK.1 9 = nI (pG L X)) (hQ : QR L X 0 vQ)
    (hend : ∀ vU' vV' vK' vQ' kc' ks', BS vU' vV' (hdT (pI L X) ++ gtsT (pK L X) (pn L X) (po L X) (pG L X)) → (vK'.1 9 = nI (pG L X) ∧ ∀ j, j < pG L X → vK'.2.1 0 j = nI (pK L X j)) → QR L X (pG L X) vQ' → kc' ≤ 200 → ks' ≤ 40000 → Ok (lp (f_L_law_L257 L X r5 vM vU' vV' vK' vQ' kc' ks') (fun _ _ => none) FU (0 : Int32) vP) Q) :
    Ok (lp (f_L_law_L70 L X r5 r13 vM vP) (fun _ _ _ _ _ _ _ => none) FU (0 : Int32) vU vV vK vQ kc ks) Q := by
  obtain ⟨⟨i2, i3⟩, ⟨g3, g6⟩, hK, hf1, hf2, hpo, hn4, hn1⟩ := p_ok L X
  refine zl7 (I := fun m x u w ke q c s => ∃ g, x = nI g ∧ g ≤ pG L X ∧ BS u w (hdT (pI L X) ++ gtsT (pK L X) (pn L X) (po L X) g) ∧ (ke.1 9 = nI (pG L X) ∧ ∀ j, j < g → ke.2.1 0 j = nI (pK L X j)) ∧ QR L X g q ∧ c ≤ 100 + 15 * g ∧ s ≤ 5000 + 5000 * g ∧ m = pG L X - g) ?_ FU (pG L X) _ _ _ _ _ _ _ (by unfold FU; omega) ⟨0, rfl, by omega, hB.cast (by show _ = hdT (pI L X) ++ []; rw [List.append_nil]), ⟨hk9, fun j hj => by omega⟩, hQ, by omega, by omega, by omega⟩
  rintro m x u w ke q c s self ⟨g, rfl, hle, hb, ⟨hk9, hkj⟩, ⟨q8, q9, qj⟩, hc, hs, rfl⟩ ih
  have hgl := gts_len (K := pK L X) (n := pn L X) (o := po L X) hK hn4 g
  have hlen : (hdT (pI L X) ++ gtsT (pK L X) (pn L X) (po L X) g).length ≤ 10 + 18 * g := by
    rw [List.length_append, hd_len]
    omega
  unfold f_L_law_L70
  rw [h13]
  by_cases hbg : pG L X ≤ g
  · obtain rfl : g = pG L X := by omega
    rw [ift hbg (by omega)]
    exact hend _ _ _ _ _ _ hb ⟨hk9, hkj⟩ ⟨q8, q9, qj⟩ (by omega) (by omega)
  · rw [iff_ hbg (by omega), z_l2, nI_add]
    refine ok_gd (decide_eq_true ⟨by omega, by omega⟩) (ok_o1e (l_cell hL X (by omega)) ?_)
    refine ok_gd (decide_eq_true ⟨by omega, by omega⟩) ?_
    rw [z_l9]
    have hbd : f_L_bound (cX L X (2 + g)) (nI 9) = some (nI (pK L X g)) := l_bound _ (by omega) (by omega)
    rw [hbd, z_o1, hk9, z_cl (by omega), z_cl (by omega)]
    have hin : inb (nI g) (pG L X) = true := z_inb (by omega) (by omega)
    refine ok_gd hin (ok_bn ?_)
    have k1 : (sI ke 0 g (nI (pK L X g))).1 9 = nI (pG L X) := hk9
    have k2 : (sI ke 0 g (nI (pK L X g))).2.1 0 g = nI (pK L X g) := by rw [z_sI2, z_u1 _ _ rfl]
    rw [k1, k2, z_cl (by omega)]
    refine ok_gd hin ?_
    have hKg := hK g
    refine ok_j1 (fun t => t = nI (pn L X g)) (fun t ht => ?_) (fun k404 hk404 => ?_)
    · subst ht
      have hn4g := hn4 g
      unfold f_L_law_J141
      simp (disch := omega) only [k1, k2, q8, q9, z_cl, z_l1, nI_add]
      refine ok_gd (decide_eq_true ⟨nI_pos (by omega), by omega, by omega, by omega⟩) (ok_bn ?_)
      refine ok_gd (by rw [Bool.and_eq_true]; exact ⟨hin, decide_eq_true (by simp)⟩) (ok_bn (ok_gd (decide_eq_true ⟨by omega, by omega⟩) ?_))
      have hnl := nm_len _ hKg
      refine ok_o2 (b_appendK hb (i := 11) (by omega) (by omega)) (fun a b hab => ?_)
      refine ok_gd hin (ok_gd (z_inb hKg (by omega)) (ok_gd (decide_eq_true ⟨by omega, by omega⟩) ?_))
      refine ok_o2 (b_appendK hab (i := nmS (pK L X g)) hnl.2.1 (by rw [List.length_append]; omega)) (fun a2 b2 hab2 => ?_)
      have hA9 : (qAdd q (aV (nI (pn L X g)) (fun _ => 0))).1 9 = nI (g + 1) := by
        show q.1 9 + 1 = _
        rw [q9, z_l1, nI_add]
      have hA8 : (qAdd q (aV (nI (pn L X g)) (fun _ => 0))).1 8 = nI (pG L X) := by
        show (if (8 : Nat) = 9 then q.1 9 + 1 else if 8 = 20 + (q.1 9).toNatClampNeg then (aV (nI (pn L X g)) (fun _ => 0)).1 9 else q.1 8) = _
        rw [if_neg (by omega), if_neg (by omega)]
        exact q8
      have hAk : ∀ j, (qAdd q (aV (nI (pn L X g)) (fun _ => 0))).1 (20 + j) = if j = g then nI (pn L X g) else q.1 (20 + j) := fun j => by
        show (if 20 + j = 9 then q.1 9 + 1 else if 20 + j = 20 + (q.1 9).toNatClampNeg then (aV (nI (pn L X g)) (fun _ => 0)).1 9 else q.1 (20 + j)) = _
        rw [q9, z_cl (by omega)]
        rw [if_neg (by omega)]
        by_cases e : j = g
        · rw [if_pos (by omega), if_pos e]; rfl
        · rw [if_neg (by omega), if_neg e]
      have hAr : ∀ j, j ≠ g → (qAdd q (aV (nI (pn L X g)) (fun _ => 0))).2.1 j = q.2.1 j := fun j hj => by
        unfold qAdd
        rw [q9, z_cl (by omega)]
        exact if_neg hj
      refine s_179 (by omega) h5 (T := hdT (pI L X) ++ gtsT (pK L X) (pn L X) (po L X) g) (by omega) (BS.cast hab2 (by simp only [List.append_assoc])) hA8 hA9 (by rw [hAk, if_pos rfl]) (by omega) (by omega) (fun vU' vV' vQ' kc' ks' c1 c2 c3 c4 c5 c6 => ?_)
      have hs2 : ks' ≤ 5000 + 5000 * (g + 1) := ar_1 hs hn4g c6
      refine ih _ _ _ _ _ _ _ _ (by omega) ⟨g + 1, rfl, by omega, BS.cast c1 (by rw [List.append_assoc]; rfl), ⟨hk9, fun j hj => ?_⟩, ⟨(congrFun c2 8).trans hA8, (congrFun c2 9).trans hA9, fun j hj => ⟨?_, fun k hk => ?_⟩⟩, by omega, hs2, rfl⟩
      · rw [z_sI2]
        by_cases e : j = g
        · rw [e, z_u1 _ _ rfl]
        · rw [z_u2 _ _ e]
          exact hkj j (by omega)
      · rw [congrFun c2 (20 + j), hAk]
        by_cases e : j = g
        · rw [if_pos e, e]
        · rw [if_neg e]
          exact (qj j (by omega)).1
      · by_cases e : j = g
        · subst e
          exact c4 k hk
        · rw [c3 j e, hAr j e]
          exact (qj j (by omega)).2 k hk
    · have e8 : pn L X g = if pK L X g = 8 then 3 else if pK L X g ≤ 5 then 2 + bd (cX L X (2 + g) >>> ((4 : Int32) &&& 31)) 3 else 1 := rfl
      rw [z_l8]
      by_cases q8' : pK L X g = 8
      · rw [iet q8']
        rw [if_pos q8'] at e8
        exact hk404 _ (by rw [e8]; rfl)
      · rw [ief q8' (by omega) (by omega)]
        rw [if_neg q8'] at e8
        refine ok_gd hin ?_
        rw [z_l5]
        by_cases q5 : pK L X g ≤ 5
        · rw [ift q5 (by omega)]
          rw [if_pos q5] at e8
          refine ok_gd (decide_eq_true ⟨by omega, by omega⟩) ?_
          rw [z_l3, l_bound _ (by omega) (by omega), z_o1, nI_add]
          exact hk404 _ (by rw [e8])
        · rw [iff_ q5 (by omega)]
          rw [if_neg q5] at e8
          exact hk404 _ (by rw [e8]; rfl)
