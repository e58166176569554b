/-! all faults; the law's end -/
theorem AP_fstI {r : Nat → Int32} {p q : Nat} (h : NI r ≤ 8) : (AP r p q = true → fstI (DF r p q) (2 ^ NI r) = nI (fst (DF r p q) (2 ^ NI r)) ∧ fst (DF r p q) (2 ^ NI r) < 2 ^ NI r) ∧ (AP r p q = false → fstI (DF r p q) (2 ^ NI r) = im1) := by
  refine ⟨fun ha => ?_, fun ha => ?_⟩
  · have hlt : fst (DF r p q) (2 ^ NI r) < 2 ^ NI r := of_decide_eq_true ha
    unfold fstI
    rw [if_pos hlt]
    exact ⟨rfl, hlt⟩
  · have hlt : ¬ fst (DF r p q) (2 ^ NI r) < 2 ^ NI r := of_decide_eq_false ha
    unfold fstI
    rw [if_neg hlt]
theorem p256 {n : Nat} (h : n ≤ 8) : 2 ^ n ≤ 256 := Nat.pow_le_pow_right (n := 2) (by omega) h
theorem AP_im {r : Nat → Int32} {p q : Nat} (h : NI r ≤ 8) : decide (fstI (DF r p q) (2 ^ NI r) = im1) = !AP r p q := by
  obtain ⟨a, b⟩ := AP_fstI (p := p) (q := q) h
  have := p256 h
  cases e : AP r p q with
  | true =>
    obtain ⟨a1, a2⟩ := a e
    rw [a1, decide_eq_false (by rw [z_pos' (by omega)]; exact id)]
    rfl
  | false => rw [b e]; rfl
theorem HB_AP {r : Nat → Int32} (h : NI r ≤ 8) (f : Nat) : HB r f = !AP r (f + 1) 0 := AP_im h
theorem AB_AP {r : Nat → Int32} (h : NI r ≤ 8) (f g : Nat) : AB r f g = !AP r (f + 1) (g + 1) := AP_im h
theorem AP_self (r : Nat → Int32) (p : Nat) : AP r p p = false := by
  unfold AP
  rw [fst_no _ (fun k _ => by simp [DF])]
  simp
/-- the test that the class names finds the fault -/
theorem find_2 {r : Nat → Int32} (hw : WFc r) {f : Nat} (hf : f < NF r) (h : AP r (f + 1) 0 = true) : FNo r (fq (fst (DF r (f + 1) 0) (2 ^ NI r))) f = 2 := by
  have hlt : fst (DF r (f + 1) 0) (2 ^ NI r) < 2 ^ NI r := of_decide_eq_true h
  have hd : DF r (f + 1) 0 (fst (DF r (f + 1) 0) (2 ^ NI r)) = true := by
    by_cases hex : ∃ k, k < 2 ^ NI r ∧ DF r (f + 1) 0 k = true
    · exact (fst_is hex).2.1
    · have := fst_no (p := DF r (f + 1) 0) (2 ^ NI r) (fun k hk => by
        cases e : DF r (f + 1) 0 k with
        | false => rfl
        | true => exact absurd ⟨k, hk, e⟩ hex)
      omega
  have ha := (apart_DF hw (p := f + 1) (q := 0) (by omega) (by omega) _).mpr hd
  rw [bad_0] at ha
  obtain ⟨o, h1, h2, h3, h4⟩ := ha
  exact (foundN_is (good r (fq _)) (bad r (fq _) (f + 1)) r (NO r)).1.mpr ⟨o, h1, h3, h2, fun e => h4 e.symm⟩
theorem fal_is {r : Nat → Int32} {f g : Nat} (hle : g ≤ f) (hg : AB r f g = true) (hj : ∀ j, j < g → AB r f j = false) : fal r f = g := by
  unfold fal
  rcases Nat.lt_or_ge g f with q | q
  · exact fst_yes f g q hg hj
  · obtain rfl : g = f := by omega
    exact fst_no g hj
set_option maxRecDepth 100000 in
set_option maxHeartbeats 1000000 in
theorem s_611 {r : Nat → Int32} (hw : WFc r) {vF vC vRT vG vRF vGF vBF vM vK vP vQ : Vs} (hC : RC r vC) (hF : FI r vF vRT vG vRF) (hm : RM r vM vK vP vQ) {r132 t136 : Int32} (hnf : (2 : Int32) * r132 + t136 = nI (NF r)) {kc ks : Nat} (hkc : kc ≤ 20000) (hks : ks ≤ 300000) :
    Ok (lp (f_L_law_L611 vK vQ vP vM r132 t136 vC) (fun _ _ _ _ _ _ _ _ _ => none) FU (0 : Int32) (0 : Int32) (0 : Int32) vF vRF vGF vBF kc ks) (fun _ => True) := by
  obtain ⟨⟨hM0, hM1⟩, hbr, -, -, -, hI2, hI3, hW3, hW6⟩ := id hm
  have hI8 : NI r ≤ 8 := by omega
  have hnfe : NF r = 2 * NW r + NB r := rfl
  have hB : NB r ≤ 1 := by rcases hbr with h | h <;> omega
  have hp := p256 hI8
  refine zl9 (I := fun m x7 x8 x9 u ru gu bu c s => ∃ f, x9 = nI f ∧ f ≤ NF r ∧ x7 = nI (cnt (HB r) f) ∧ x8 = nI (cnt (CB r) f) ∧ FI r u vRT vG ru ∧ c ≤ 20000 + 7500 * f ∧ s ≤ 300000 + 50000 * f ∧ m = NF r - f) ?_ FU (NF r) _ _ _ _ _ _ _ _ _ (by unfold FU; omega) ⟨0, rfl, by omega, rfl, rfl, hF, by omega, by omega, by omega⟩
  rintro m x7 x8 x9 u ru gu bu c s self ⟨f, rfl, hle, rfl, rfl, hF, hc, hs, rfl⟩ ih
  have c1 := cnt_le (HB r) f
  have c2 := cnt_le (CB r) f
  unfold f_L_law_L611
  rw [hnf]
  by_cases hb : NF r ≤ f
  · rw [ift hb (by omega)]
    obtain rfl : f = NF r := by omega
    obtain ⟨u1, ru1, gu1, bu1, e1, hF1⟩ := y_hidden hw (vGF := gu) (vBF := bu) hC hF
    obtain ⟨u2, ru2, gu2, bu2, e2, hF2⟩ := u_classes hw (vGF := gu1) (vBF := bu1) hC hF1
    refine ok_gd (decide_eq_true ⟨by omega, by omega⟩) ?_
    rw [e1, z_o5, z_jn, show HN r = cnt (HB r) (NF r) from rfl, iet rfl]
    refine ok_gd (decide_eq_true ⟨by omega, by omega⟩) ?_
    rw [e2, z_o5, iet rfl]
    unfold f_L_law_J772
    exact ok_gd (by rw [Bool.and_eq_true]; exact ⟨decide_eq_true rfl, decide_eq_true ⟨by omega, by omega⟩⟩) (ok_some trivial)
  · rw [iff_ hb (by omega)]
    have hfN : f < NF r := by omega
    have ha0 := m_isApart hw hm (p := f + 1) (q := 0) (by omega) (by omega)
    have ha0 : f_X8_isApart vM vK vP vQ (nI f) (-1 : Int32) = some (nI (if AP r (f + 1) 0 then 1 else 0)) := ha0
    refine ok_gd (decide_eq_true ⟨by omega, by omega⟩) ?_
    rw [ha0, z_o1]
    obtain ⟨aT, aF⟩ := AP_fstI (p := f + 1) (q := 0) hI8
    have hHB := HB_AP hI8 f
    have ecH : cnt (HB r) (f + 1) = cnt (HB r) f + (if HB r f then 1 else 0) := rfl
    have ecC : cnt (CB r) (f + 1) = cnt (CB r) f + (if CB r f then 1 else 0) := rfl
    obtain ⟨u1, ru1, gu1, bu1, e1, hF1⟩ := u_testFor hw (vGF := gu) (vBF := bu) hC hF hfN
    -- the search of the first that is alike
    have h690 : ∀ u ru gu bu kc' ks', FI r u vRT vG ru → kc' ≤ c + 400 → ks' ≤ s + 3000 → Ok (f_L_law_J690 vK vQ vP vM vC (nI (cnt (HB r) f)) (nI (cnt (CB r) f)) (nI f) self (nI (if HB r f then 1 else 0)) u ru gu bu kc' ks') (fun _ => True) := fun u ru gu bu kc' ks' hFu hk1 hk2 => by
      unfold f_L_law_J690
      refine zl3 (I := fun m x a b => ∃ g, x = nI g ∧ g ≤ f ∧ (∀ j, j < g → AB r f j = false) ∧ a ≤ kc' + 340 * g ∧ b ≤ ks' + 2200 * g ∧ m = f - g) ?_ FU f _ _ _ (by unfold FU; omega) ⟨0, rfl, by omega, fun j hj => by omega, by omega, by omega, by omega⟩
      rintro m x a b self2 ⟨g, rfl, hgf, hj, ha, hbb, rfl⟩ ih2
      unfold f_L_law_L693
      have hap : f_X8_isApart vM vK vP vQ (nI f) (nI g) = some (nI (if AP r (f + 1) (g + 1) then 1 else 0)) := m_isApart hw hm (p := f + 1) (q := g + 1) (by omega) (by omega)
      refine ok_gd (decide_eq_true ⟨by omega, by omega⟩) ?_
      rw [hap, z_o1]
      have hAB := AB_AP hI8 f g
      cases hq : AP r (f + 1) (g + 1) with
      | true =>
        rw [hq] at hAB
        have hne : g ≠ f := fun e => by
          rw [e, AP_self] at hq
          exact absurd hq (by decide)
        rw [if_neg (show ¬ nI (if true = true then 1 else 0) = (0 : Int32) by decide), z_l1, nI_add]
        refine ih2 _ _ _ _ (by omega) ⟨g + 1, rfl, by omega, fun j hj2 => ?_, by omega, by omega, rfl⟩
        rcases Nat.lt_or_ge j g with z | z
        · exact hj j z
        · obtain rfl : j = g := by omega
          exact hAB
      | false =>
        rw [hq] at hAB
        have hfal := fal_is hgf hAB hj
        have hCB : CB r f = decide (g = f) := by
          unfold CB
          rw [hfal]
        rw [if_pos (show nI (if false = true then 1 else 0) = (0 : Int32) from rfl)]
        obtain ⟨u3, ru3, gu3, bu3, e3, hF3⟩ := u_alike hw (vGF := gu) (vBF := bu) hC hFu hfN
        refine ok_j1 (fun x => x = nI (if CB r f then 1 else 0)) (fun x hx => ?_) (fun k hk => ?_)
        · subst hx
          unfold f_L_law_J724
          refine ok_gd (decide_eq_true ⟨by omega, by omega⟩) ?_
          rw [e3, z_o6, if_pos rfl, hfal, iet rfl, nI_add, nI_add, ← ecH, ← ecC, z_l1, nI_add]
          exact ih _ _ _ _ _ _ _ _ _ _ (by omega) ⟨f + 1, rfl, by omega, rfl, rfl, hF3, by omega, by omega, rfl⟩
        · by_cases e : g = f
          · rw [iet e]
            rw [decide_eq_true e] at hCB
            exact hk _ (by rw [hCB]; rfl)
          · rw [ief e (by omega) (by omega)]
            rw [decide_eq_false e] at hCB
            exact hk _ (by rw [hCB]; rfl)
    refine ok_j1 (fun x => x = nI (if HB r f then 1 else 0)) (fun x hx => ?_) (fun k hk => ?_)
    · subst hx
      unfold f_L_law_J639
      refine ok_gd (decide_eq_true ⟨by omega, by omega⟩) ?_
      rw [e1, z_o6, if_pos rfl]
      refine ok_j1 (fun x => x = nI (if AP r (f + 1) 0 then 1 else 0)) (fun x hx => ?_) (fun k hk => ?_)
      · subst hx
        unfold f_L_law_J657
        rw [iet rfl, z_jn]
        cases hq : AP r (f + 1) 0 with
        | false =>
          rw [if_pos (show nI (if false = true then 1 else 0) = (0 : Int32) from rfl)]
          exact h690 _ _ _ _ _ _ hF1 (by omega) (by omega)
        | true =>
          obtain ⟨t1, t2⟩ := aT hq
          rw [if_neg (show ¬ nI (if true = true then 1 else 0) = (0 : Int32) by decide)]
          obtain ⟨u2, ru2, gu2, bu2, e2, hF2⟩ := u_testFor hw (vGF := gu1) (vBF := bu1) hC hF1 hfN
          refine ok_gd (decide_eq_true ⟨by omega, by omega⟩) ?_
          rw [e2, z_o6, if_pos rfl, t1]
          refine ok_gd (decide_eq_true ⟨by omega, by omega⟩) (ok_o1 (m_full hm (N := fst (DF r (f + 1) 0) (2 ^ NI r)) (by omega)) (fun vA hA => ?_))
          refine ok_gd (decide_eq_true ⟨by omega, by omega⟩) ?_
          rw [m_finds hw hm hA hfN, z_o1, find_2 hw hfN hq, if_pos (show nI 2 = (2 : Int32) from rfl)]
          exact h690 _ _ _ _ _ _ hF2 (by omega) (by omega)
      · cases hq : AP r (f + 1) 0 with
        | false =>
          rw [hq] at hk
          rw [aF hq, if_pos (show im1 < 0 by decide)]
          exact hk _ rfl
        | true =>
          rw [hq] at hk
          obtain ⟨t1, t2⟩ := aT hq
          rw [t1, if_neg (nI_pos (by omega))]
          exact hk _ rfl
    · cases hq : AP r (f + 1) 0 with
      | false =>
        rw [hq] at hHB
        rw [if_pos (show nI (if false = true then 1 else 0) = (0 : Int32) from rfl)]
        exact hk _ (by rw [hHB]; rfl)
      | true =>
        rw [hq] at hHB
        rw [if_neg (show ¬ nI (if true = true then 1 else 0) = (0 : Int32) by decide)]
        exact hk _ (by rw [hHB]; rfl)
