/-! the law writes the outputs and the bridge -/
def pb (L : Nat) (X : Nat → Int32) : Bool := decide ((cX L X 8 &&& (1 : Int32)) = (1 : Int32))
def pkb (L : Nat) (X : Nat → Int32) : Nat := NI_ ((cX L X 8 >>> ((1 : Int32) &&& 31)) &&& (1 : Int32))
theorem pkb_2 (L : Nat) (X : Nat → Int32) : pkb L X < 2 ∧ ((cX L X 8 >>> ((1 : Int32) &&& 31)) &&& (1 : Int32)) = nI (pkb L X) := by
  refine ⟨?_, (nI_NI _).symm⟩
  unfold pkb
  rw [nI_and, show NI_ (1 : Int32) = 1 from rfl]
  have := Nat.and_le_right (n := NI_ (cX L X 8 >>> ((1 : Int32) &&& 31))) (m := 1)
  omega
abbrev pT (L : Nat) (X : Nat → Int32) : List Nat := cirT (pI L X) (pG L X) (pK L X) (pn L X) (po L X) (pb L X) (pkb L X)
abbrev pQ (L : Nat) (X : Nat → Int32) : Nat → Int32 := cirQ (pI L X) (pG L X) (pK L X) (pn L X) (po L X) (pb L X) (pkb L X)
theorem pQ_is (L : Nat) (X : Nat → Int32) : NI (pQ L X) = pI L X ∧ NW (pQ L X) = pI L X + pG L X ∧ NO (pQ L X) = 3 ∧ NT (pQ L X) = 0 ∧ (NB (pQ L X) = if pb L X = true then 1 else 0) ∧ (∀ g, g < pG L X → kd (pQ L X) (pI L X + g) = pK L X g ∧ hv (pQ L X) (pI L X + g) = pn L X g ∧ ∀ k, k < pn L X g → op (pQ L X) (pI L X + g) k = po L X g k) ∧ (∀ k, k < 3 → ou (pQ L X) k = outW (pI L X + pG L X) k) ∧ (pb L X = true → bk (pQ L X) 0 = pkb L X ∧ ba (pQ L X) 0 = 0 ∧ bb (pQ L X) 0 = 1) := by
  obtain ⟨⟨i2, i3⟩, ⟨g3, g6⟩, hK, hf1, hf2, hpo, hn4, hn1⟩ := p_ok L X
  exact cir_is i3 g6 hK hn4 hpo (pkb_2 L X).1
theorem RM_p {L : Nat} {X : Nat → Int32} {vM vK vP vQ : Vs} (m0 : vM.1 0 = nI (pI L X)) (m1 : vM.1 1 = nI (pG L X)) (mb : (pb L X = true ∧ vM.1 6 = nI 0 ∧ vM.1 7 = nI 1 ∧ vM.1 5 = nI (pkb L X)) ∨ (pb L X = false ∧ vM.1 6 = im1)) (hk : vK.1 9 = nI (pG L X) ∧ ∀ j, j < pG L X → vK.2.1 0 j = nI (pK L X j)) (hp : vP.1 9 = nI 3 ∧ ∀ j, j < 3 → vP.2.1 0 j = nI (outW (pI L X + pG L X) j)) (hQ : QR L X (pG L X) vQ) : RM (pQ L X) vM vK vP vQ := by
  obtain ⟨⟨i2, i3⟩, ⟨g3, g6⟩, hK, hf1, hf2, hpo, hn4, hn1⟩ := p_ok L X
  obtain ⟨c0, c1, c2, c4, c3, cg, co, cb⟩ := pQ_is L X
  obtain ⟨q8, q9, qj⟩ := hQ
  have hsub : pI L X + pG L X - pI L X = pG L X := by omega
  unfold RM
  rw [c0, c1, c2, hsub]
  refine ⟨⟨m0, m1⟩, ?_, ⟨hk.1, fun w h1 h2 => ?_⟩, ⟨rfl, hp.1, fun o ho => ?_⟩, ⟨q8, q9, fun w h1 h2 => ?_⟩, i2, i3, by omega, by omega⟩
  · rcases mb with ⟨b1, b2, b3, b4⟩ | ⟨b1, b2⟩
    · obtain ⟨e1, e2, e3⟩ := cb b1
      rw [b1, if_pos rfl] at c3
      exact Or.inr ⟨c3, b2, b3, by rw [e1]; exact b4, e2, e3⟩
    · rw [b1, if_neg (by decide)] at c3
      exact Or.inl ⟨c3, b2⟩
  · obtain ⟨g, rfl⟩ : ∃ g, w = pI L X + g := ⟨w - pI L X, by omega⟩
    rw [(cg g (by omega)).1, Nat.add_sub_cancel_left]
    exact hk.2 g (by omega)
  · rw [co o ho]
    exact hp.2 o ho
  · obtain ⟨g, rfl⟩ : ∃ g, w = pI L X + g := ⟨w - pI L X, by omega⟩
    obtain ⟨d1, d2, d3⟩ := cg g (by omega)
    rw [Nat.add_sub_cancel_left, d2]
    refine ⟨(qj g (by omega)).1, fun k hk => ?_⟩
    rw [d3 k hk]
    exact (qj g (by omega)).2 k hk
set_option maxRecDepth 100000 in
set_option maxHeartbeats 1000000 in
theorem s_257 {L : Nat} {X : Nat → Int32} (hL : L ≤ 260) {r5 : Int32} {vM vU vV vK vP vQ : Vs} {Q : Unit → Prop} {kc ks : Nat} (hkc : kc ≤ 200) (hks : ks ≤ 40000) (hB : BS vU vV (hdT (pI L X) ++ gtsT (pK L X) (pn L X) (po L X) (pG L X))) (m0 : vM.1 0 = nI (pI L X)) (m1 : vM.1 1 = nI (pG L X)) (m6 : vM.1 6 = im1) (hk : vK.1 9 = nI (pG L X) ∧ ∀ j, j < pG L X → vK.2.1 0 j = nI (pK L X j)) (hp9 : vP.1 9 = nI 3) (hQ : QR L X (pG L X) vQ)
    (hJ : ∀ vU' vV' vM' vP' kc' ks', BS vU' vV' (pT L X) → RM (pQ L X) vM' vK vP' vQ → kc' ≤ 300 → ks' ≤ 50000 → Ok (f_L_law_J395 L X r5 vK vQ vP' vU' vV' vM' kc' ks') Q) :
    Ok (lp (f_L_law_L257 L X r5 vM vU vV vK vQ kc ks) (fun _ _ => none) FU (0 : Int32) vP) Q := by
  obtain ⟨⟨i2, i3⟩, ⟨g3, g6⟩, hK, hf1, hf2, hpo, hn4, hn1⟩ := p_ok L X
  have hwi : ∀ vP', f_X8_wires vM vK vP' vQ = some (nI (pI L X + pG L X)) := fun vP' => by
    unfold f_X8_wires
    rw [m0, m1, nI_add]
  have hgl := gts_len (K := pK L X) (n := pn L X) (o := po L X) hK hn4 (pG L X)
  have hlen : (hdT (pI L X) ++ gtsT (pK L X) (pn L X) (po L X) (pG L X)).length ≤ 118 := by
    rw [List.length_append, hd_len]
    omega
  refine zl2 (I := fun m x v => ∃ k, x = nI k ∧ k ≤ 3 ∧ v.1 9 = nI 3 ∧ (∀ j, j < k → v.2.1 0 j = nI (outW (pI L X + pG L X) j)) ∧ m = 3 - k) ?_ FU 3 _ _ (by unfold FU; omega) ⟨0, rfl, by omega, hp9, fun j hj => by omega, by omega⟩
  rintro m x v self ⟨k, rfl, hk3, hv9, hv, rfl⟩ ih
  unfold f_L_law_L257
  rw [z_l3]
  by_cases hb3 : 3 ≤ k
  · obtain rfl : k = 3 := by omega
    rw [ift hb3 (by omega)]
    have l20 : (wdS 20).length = 7 := by decide +kernel
    have hw : ∀ j, j < 3 → outW (pI L X + pG L X) j < 10 := fun j hj => by unfold outW; omega
    have hP : v.1 9 = nI 3 ∧ ∀ j, j < 3 → v.2.1 0 j = nI (outW (pI L X + pG L X) j) := ⟨hv9, hv⟩
    obtain ⟨T, hT⟩ : ∃ T, T = hdT (pI L X) ++ gtsT (pK L X) (pn L X) (po L X) (pG L X) := ⟨_, rfl⟩
    rw [← hT] at hB hlen
    have e0 : v.2.1 0 ((0 : Int32)).toNatClampNeg = nI (outW (pI L X + pG L X) 0) := hv 0 (by omega)
    have e1 : v.2.1 0 ((1 : Int32)).toNatClampNeg = nI (outW (pI L X + pG L X) 1) := hv 1 (by omega)
    have e2 : v.2.1 0 ((2 : Int32)).toNatClampNeg = nI (outW (pI L X + pG L X) 2) := hv 2 (by omega)
    refine ok_gd (decide_eq_true ⟨by omega, by omega⟩) (ok_o2 (b_appendK hB (i := 20) (by omega) (by omega)) (fun a1 c1 h1 => ?_))
    rw [hv9, e0, e1, e2]
    refine ok_gd (by decide) (ok_gd (decide_eq_true ⟨by omega, by omega⟩) (ok_o2 (b_appendI h1 (d := outW (pI L X + pG L X) 0) (hw 0 (by omega)) (by rw [List.length_append]; omega)) (fun a2 c2 h2 => ?_)))
    refine ok_gd (decide_eq_true ⟨by omega, by omega⟩) ?_
    rw [z_l32]
    refine ok_o2 (b_appendC h2 (x := 32) (by omega) (by simp only [List.length_append, List.length_cons, List.length_nil]; omega)) (fun a3 c3 h3 => ?_)
    refine ok_gd (by decide) (ok_gd (decide_eq_true ⟨by omega, by omega⟩) (ok_o2 (b_appendI h3 (d := outW (pI L X + pG L X) 1) (hw 1 (by omega)) (by simp only [List.length_append, List.length_cons, List.length_nil]; omega)) (fun a4 c4 h4 => ?_)))
    refine ok_gd (decide_eq_true ⟨by omega, by omega⟩) (ok_o2 (b_appendC h4 (x := 32) (by omega) (by simp only [List.length_append, List.length_cons, List.length_nil]; omega)) (fun a5 c5 h5 => ?_))
    refine ok_gd (by decide) (ok_gd (decide_eq_true ⟨by omega, by omega⟩) (ok_o2 (b_appendI h5 (d := outW (pI L X + pG L X) 2) (hw 2 (by omega)) (by simp only [List.length_append, List.length_cons, List.length_nil]; omega)) (fun a6 c6 h6 => ?_)))
    refine ok_gd (decide_eq_true ⟨by omega, by omega⟩) ?_
    rw [z_l59]
    refine ok_o2 (b_appendC h6 (x := 59) (by omega) (by simp only [List.length_append, List.length_cons, List.length_nil]; omega)) (fun a7 c7 h7 => ?_)
    have h7 : BS a7 c7 (T ++ otT (outW (pI L X + pG L X))) := BS.cast h7 (by unfold otT; simp only [List.append_assoc])
    have hlen7 : (T ++ otT (outW (pI L X + pG L X))).length ≤ 131 := by
      unfold otT
      simp only [List.length_append, List.length_cons, List.length_nil]
      omega
    refine ok_gd (decide_eq_true ⟨by omega, by omega⟩) ?_
    rw [z_l8]
    have hcell := l_cell hL X (k := 8) (by omega)
    rw [hcell, z_o1]
    refine ok_jn ?_
    obtain ⟨kb2, kbe⟩ := pkb_2 L X
    by_cases hb : (cX L X 8 &&& (1 : Int32)) = (1 : Int32)
    · have hpb : pb L X = true := decide_eq_true hb
      rw [if_pos hb]
      refine ok_gd (decide_eq_true ⟨by omega, by omega⟩) ?_
      rw [z_o1, kbe]
      refine ok_bn (ok_bn (ok_bn (ok_gd (decide_eq_true ⟨by omega, by omega⟩) ?_)))
      have l5 : (wdS 5).length = 7 ∧ (wdS 0).length = 5 := by decide +kernel
      refine ok_o2 (b_appendK h7 (i := 5) (by omega) (by omega)) (fun a8 c8 h8 => ?_)
      have v5 : (sF (sF (sF vM 5 (nI (pkb L X))) 6 (0 : Int32)) 7 (1 : Int32)).1 5 = nI (pkb L X) := by rw [z_sF2 _ _ _ (by decide), z_sF2 _ _ _ (by decide), z_sF1]
      rw [v5, z_cl (by omega)]
      have hnm := nm_len (pkb L X) (by omega)
      refine ok_gd (z_inb (by omega) (by omega)) (ok_gd (decide_eq_true ⟨by omega, by omega⟩) (ok_o2 (b_appendK h8 (i := nmS (pkb L X)) hnm.2.1 (by rw [List.length_append]; omega)) (fun a9 c9 h9 => ?_)))
      refine ok_gd (decide_eq_true ⟨by omega, by omega⟩) (ok_o2 (b_appendK h9 (i := 0) (by omega) (by rw [List.length_append, List.length_append]; omega)) (fun aa ca ha => ?_))
      refine hJ _ _ _ _ _ _ (BS.cast ha ?_) (RM_p ?_ ?_ (Or.inl ⟨hpb, ?_, ?_, v5⟩) hk hP hQ) (by omega) (by omega)
      · show _ = hdT _ ++ gtsT _ _ _ _ ++ otT _ ++ (if pb L X = true then brT (pkb L X) else [])
        rw [if_pos hpb, ← hT]
        unfold brT
        simp only [List.append_assoc]
      · rw [z_sF2 _ _ _ (by decide), z_sF2 _ _ _ (by decide), z_sF2 _ _ _ (by decide)]; exact m0
      · rw [z_sF2 _ _ _ (by decide), z_sF2 _ _ _ (by decide), z_sF2 _ _ _ (by decide)]; exact m1
      · rw [z_sF2 _ _ _ (by decide), z_sF1]; rfl
      · rw [z_sF1]; rfl
    · have hpb : pb L X = false := decide_eq_false hb
      rw [if_neg hb]
      refine hJ _ _ _ _ _ _ (BS.cast h7 ?_) (RM_p m0 m1 (Or.inr ⟨hpb, m6⟩) hk hP hQ) (by omega) (by omega)
      show _ = hdT _ ++ gtsT _ _ _ _ ++ otT _ ++ (if pb L X = true then brT (pkb L X) else [])
      rw [hpb, if_neg (by decide), ← hT, List.append_nil]
  · rw [iff_ hb3 (by omega)]
    refine ok_gd (decide_eq_true ⟨by omega, by omega⟩) ?_
    rw [hwi, z_o1, hv9]
    refine ok_gd (z_inb (by rw [z_cl (by omega)]; omega) (by rw [z_cl (by omega)]; omega)) (ok_bn ?_)
    rw [z_l1, z_sub (by omega), z_sub (by omega), nI_add, z_cl (by omega)]
    refine ih _ _ _ (by omega) ⟨k + 1, rfl, by omega, hv9, fun j hj => ?_, rfl⟩
    rw [z_sI2]
    by_cases e : j = k
    · rw [e, z_u1 _ _ rfl]
      rfl
    · rw [z_u2 _ _ e]
      exact hv j (by omega)
set_option maxRecDepth 100000 in
set_option maxHeartbeats 1000000 in
theorem s_law0 {L : Nat} {X : Nat → Int32} (hL : L ≤ 260) {Q : Unit → Prop}
    (hJ : ∀ r5 vU' vV' vM' vK' vP' vQ' kc' ks', (2 : Int32) + r5 = nI (pI L X) → BS vU' vV' (pT L X) → RM (pQ L X) vM' vK' vP' vQ' → kc' ≤ 300 → ks' ≤ 50000 → Ok (f_L_law_J395 L X r5 vK' vQ' vP' vU' vV' vM' kc' ks') Q) : Ok (f_L_law L X) Q := by
  obtain ⟨⟨i2, i3⟩, ⟨g3, g6⟩, hK, hf1, hf2, hpo, hn4, hn1⟩ := p_ok L X
  have e2 : f_L_bound (cX L X 0) (nI 2) = some (nI (bd (cX L X 0) 2)) := l_bound _ (by omega) (by omega)
  have e4 : f_L_bound (cX L X 1) (nI 4) = some (nI (bd (cX L X 1) 4)) := l_bound _ (by omega) (by omega)
  have h5 : (2 : Int32) + nI (bd (cX L X 0) 2) = nI (pI L X) := nI_add 2 _
  have h13 : (3 : Int32) + nI (bd (cX L X 1) 4) = nI (pG L X) := nI_add 3 _
  unfold f_L_law
  refine ok_o1e (l_cell hL X (k := 0) (by omega)) (ok_o1e e2 (ok_o1e (l_cell hL X (k := 1) (by omega)) (ok_o1e e4 (ok_gd (by decide) (ok_bn (ok_gd (by decide) ?_))))))
  rw [h5, h13]
  have hin : ∃ vM vK vP vQ, f_X8_init zV (nI (pI L X)) (nI (pG L X)) = some (vM, vK, vP, vQ) ∧ vM.1 0 = nI (pI L X) ∧ vM.1 1 = nI (pG L X) ∧ vM.1 6 = im1 ∧ vK.1 9 = nI (pG L X) ∧ vP.1 9 = nI 3 ∧ QR L X 0 vQ := by
    refine ⟨sF (sF (sF zV 6 im1) 0 (nI (pI L X))) 1 (nI (pG L X)), aV (nI (pG L X)) (fun _ => 0), aV (nI 3) (fun _ => 0), qV0 (nI (pG L X)), ?_, ?_, z_sF1 _ _ _, ?_, rfl, rfl, rfl, rfl, fun j hj => by omega⟩
    · unfold f_X8_init
      have h3 : (3 : Int32).toNatClampNeg = 3 := by decide
      rw [h3, z_cl (show pG L X < 2147483648 by omega)]
      have hd1 : decide (¬ nI (pG L X) < 0 ∧ pG L X ≤ 65536 ∧ 0 + 1 + 1 ≤ 3 ∧ 0 + 3 + pG L X ≤ 40) = true := decide_eq_true ⟨nI_pos (by omega), by omega, by omega, by omega⟩
      have hd2 : decide (¬ nI (pG L X) < 0 ∧ pG L X ≤ 65536 ∧ 0 + 1 + 1 + 1 ≤ 3 ∧ 0 + 3 + pG L X + pG L X ≤ 40) = true := decide_eq_true ⟨nI_pos (by omega), by omega, by omega, by omega⟩
      have hd3 : decide (0 + 1 + 1 + 1 ≤ 3 ∧ 0 + 3 + pG L X + pG L X ≤ 40) = true := decide_eq_true ⟨by omega, by omega⟩
      rw [hd1, hd2, hd3]
      rfl
    · rw [z_sF2 _ _ _ (by decide), z_sF1]
    · rw [z_sF2 _ _ _ (by decide), z_sF2 _ _ _ (by decide), z_sF1]
  obtain ⟨vM, vK, vP, vQ, ei, m0, m1, m6, k9, p9, hQ⟩ := hin
  rw [ei, z_o4]
  have l8 : (wdS 8).length = 8 := by decide +kernel
  have l2 : (wdS 2).length = 1 := by decide +kernel
  refine ok_gd (by decide) (ok_bn (ok_gd (by decide) (ok_bn (ok_gd (by decide) ?_))))
  refine ok_o2 (b_new (vU := zV) rfl rfl) (fun a1 c1 h1 => ok_gd (by decide) ?_)
  refine ok_o2 (b_appendK h1 (i := 8) (by omega) (by show 0 + _ ≤ 190; omega)) (fun a2 c2 h2 => ok_gd (by decide) ?_)
  refine ok_o2 (b_appendI h2 (d := pI L X) (by omega) (by simp only [List.length_append, List.length_nil]; omega)) (fun a3 c3 h3 => ok_gd (by decide) ?_)
  refine ok_o2 (b_appendK h3 (i := 2) (by omega) (by simp only [List.length_append, List.length_cons, List.length_nil]; omega)) (fun a4 c4 h4 => ok_gd (by decide) ?_)
  have h4 : BS a4 c4 (hdT (pI L X)) := BS.cast h4 rfl
  refine ok_o2 (b_toString h4) (fun z1 z2 hz => ok_gd (by decide) ?_)
  refine ok_o2 (b_ofString (vU := zV) hz rfl) (fun a5 c5 h5' => ?_)
  exact s_70 hL h5 h13 (by decide) (by decide) h5' k9 hQ (fun vU' vV' vK' vQ' kc' ks' b1 b2 b3 b4 b5 => s_257 hL b4 b5 b1 m0 m1 m6 b2 p9 b3 (fun vU'' vV'' vM'' vP'' kc'' ks'' d1 d2 d3 d4 => hJ _ _ _ _ _ _ _ _ _ h5 d1 d2 d3 d4))
