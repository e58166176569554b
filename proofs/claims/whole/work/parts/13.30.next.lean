/-! nextTest -/
theorem cnt_same {Q R : Nat → Bool} {P p : Nat} (h : P ≤ p) (e : cnt Q P = cnt Q p) : cnt (fun j => Q j && R j) P = cnt (fun j => Q j && R j) p := by
  have h1 := cnt_split Q P (p - P)
  rw [show P + (p - P) = p by omega] at h1
  have h2 := cnt_split (fun j => Q j && R j) P (p - P)
  rw [show P + (p - P) = p by omega] at h2
  have h0 : ∀ k, k < p - P → Q (P + k) = false := fun k hk => by
    cases hq : Q (P + k) with
    | false => rfl
    | true =>
      have := cnt_up (p := Q) (i := P + k) (n := p) (by omega) hq
      have := cnt_mono Q (m := P) (n := P + k) (by omega)
      omega
  have h3 : cnt (fun k => Q (P + k) && R (P + k)) (p - P) = 0 := cnt_zero _ (fun k hk => by rw [h0 k hk]; rfl)
  omega
theorem h_greatest {v : Vs} {n : Nat} {r : Nat → Int32} (h : MS v n r) (hw : WFc r) (ht : WFt r) (hz : ∀ k, k < 57 → v.2.1 21 k = if FK r (NT r) k then nI 1 else nI 0) {t : Nat} (h1 : t < NT r) : ∃ v', f_X8_greatest v (nI t) = some (nI (GP r t), v') ∧ SC [6, 7, 8, 22] v v' := by
  have hn := hw.nf
  have h16 := ht.1.2
  have key : Ok (f_X8_greatest v (nI t)) (fun q => q.1 = nI (GP r t) ∧ SC [6, 7, 8, 22] v q.2) := by
    unfold f_X8_greatest
    refine zl2 (I := fun m x v' => ∃ c, x = nI c ∧ c ≤ 729 ∧ m = 729 - c ∧ SC [6, 7, 8, 22] v v' ∧ ∀ j, j < c → v'.2.1 22 j = nI 0) ?_ FU 729 _ _ (by unfold FU; omega) ⟨0, rfl, by omega, by omega, SC.rf _ _, fun j hj => by omega⟩
    rintro m x v' self ⟨c, rfl, hle, rfl, hs, hp⟩ ih
    have hm := h.sc hs (by decide)
    unfold f_X8_greatest_L2
    rw [z_l729]
    by_cases hb : 729 ≤ c
    · rw [ift hb (by omega)]
      clear ih
      obtain ⟨v1, e1, s1, a1⟩ := h_asksTest hm hw ht h1
      refine ok_o1e e1 ?_
      have hm1 := hm.sc s1 (by decide)
      have hs1 : SC [6, 7, 8, 22] v v1 := hs.tr (s1.mono (by decide))
      refine zl3 (I := fun m x y v2 => ∃ k, x = nI (mxf (fun c => cnt (fun j => FK r (NT r) j && decide (PV r t (ixp j) = c)) k) 729) ∧ y = nI k ∧ k ≤ 57 ∧ m = 57 - k ∧ SC [8, 22] v1 v2 ∧ ∀ c, c < 729 → v2.2.1 22 c = nI (cnt (fun j => FK r (NT r) j && decide (PV r t (ixp j) = c)) k)) ?_ FU 57 _ _ _ (by unfold FU; omega) ⟨0, ?_, rfl, by omega, by omega, SC.rf _ _, fun c hc => ?_⟩
      · rintro m x y v2 self ⟨k, rfl, rfl, hle2, rfl, hs2, hp2⟩ ih
        have hm2 := hm1.sc hs2 (by decide)
        have hle57 : ∀ c, cnt (fun j => FK r (NT r) j && decide (PV r t (ixp j) = c)) k ≤ 57 := fun c => by
          have := cnt_le (fun j => FK r (NT r) j && decide (PV r t (ixp j) = c)) k
          omega
        have hmx : mxf (fun c => cnt (fun j => FK r (NT r) j && decide (PV r t (ixp j) = c)) k) 729 ≤ 57 := mxf_le _ (fun c _ => hle57 c)
        unfold f_X8_greatest_L31
        rw [z_l57]
        by_cases hb2 : 57 ≤ k
        · rw [ift hb2 (by omega)]
          have e : k = 57 := by omega
          subst e
          refine ok_some ⟨congrArg nI ?_, hs1.tr (hs2.mono (by decide))⟩
          unfold GP
          refine mxf_cong _ (fun c _ => ?_)
          exact cnt_FK hw (fun p => decide (PV r t p = c))
        · rw [iff_ hb2 (by omega)]
          refine ok_gd (z_inb (by omega) (by omega)) ?_
          have hzk := hz k (by omega)
          rw [← hs1.2 21 (by decide), ← hs2.2 21 (by decide)] at hzk
          rw [z_cl (by omega), hzk]
          cases hd : FK r (NT r) k
          · rw [if_neg (by decide)]
            have es := cnt_stay (fun j => FK r (NT r) j) (fun j => PV r t (ixp j)) k hd
            have ih' := ih (57 - (k + 1)) (nI (mxf (fun c => cnt (fun j => FK r (NT r) j && decide (PV r t (ixp j) = c)) (k + 1)) 729)) (nI (k + 1)) v2 (by omega) ⟨k + 1, rfl, rfl, by omega, rfl, hs2, fun c hc => by rw [hp2 c hc]; exact congrArg nI (congrFun es c).symm⟩
            rw [es] at ih'
            simp (disch := omega) only [z_gt, z_o1, z_o2, z_o3, z_o4, z_o5, z_o6, z_o7, z_o8, z_o9, z_bn, z_jn, nI_add, z_mul, z_sub, z_div, Nat.not_lt_zero, z_cl, z_le, z_lt, z_eq, z_inb, z_nz, z_isB0, z_notJ, z_notI, z_isB1, z_m1, z_pos, z_pos', z_nlt, z_nle', z_m1le, z_m1a, z_nle, z_sI0, z_sI1, z_sI2, z_sI3, z_sJ0, z_sJ1, z_sJ2, z_sJ3, z_sF0, z_sF1, z_sF2, z_sA0, z_sA1, z_sA2, z_sA3, z_sAA, z_sIA, ↓reduceIte, Nat.reduceEqDiff, Nat.reduceLeDiff, Nat.reduceLT, z_l0, z_l1, z_l2, z_l3, z_l4, z_l5, z_l6, z_l7, z_l8, z_l9, z_l10, z_l11, z_l12, z_l13, z_l14, z_l15, z_l16, z_l17, z_l18, z_l19, z_l20, z_l21, z_l22, z_l23, z_l24, z_l25, z_l26, z_l27, z_l28, z_l32, z_l48, z_l56, z_l57, z_l59, z_l63, z_l64, z_l96, z_l97, z_l122, z_l127, z_l152, z_l158, z_l182, z_l255, z_l256, z_l310, z_l342, z_l406, z_l440, z_l729, z_l800, z_l3960, z_l14336, z_l14592, z_l100000]
            exact ih'
          · rw [if_pos rfl]
            have hpk : ixp k ≤ NF r := by
              unfold FK at hd
              simp at hd
              unfold ixp
              split <;> omega
            have es := cnt_step (fun j => FK r (NT r) j) (fun j => PV r t (ixp j)) k hd
            obtain ⟨v3, e3, s3, b3⟩ := h_bends hm2 hw (a1.sc hs2 (by decide) (by decide)) hpk
            have hm3 := hm2.sc s3 (by decide)
            refine ok_jn ?_
            rw [z_l0, ief (by omega) (by omega) (by omega)]
            refine ok_o1e (g_at (by omega)) ?_
            refine ok_o1e e3 ?_
            have hPV := PV_lt hw ht (p := ixp k) h1
            refine zl2 (I := fun m x y => ∃ o, x = nI (partN (bad r (tv r t) (ixp k)) r o) ∧ y = nI o ∧ o ≤ NO r ∧ m = NO r - o) ?_ FU (NO r) _ _ (by unfold FU; omega) ⟨0, rfl, rfl, by omega, by omega⟩
            rintro m x y self2 ⟨o, rfl, rfl, hle3, rfl⟩ ih2
            have hpo := partN_729 hw (fun i hi => (ht.2.1 t i h1 hi).2) (p := ixp k) hle3
            unfold f_X8_greatest_L64
            refine ok_o1e (g_outputs hm3 hw) ?_
            by_cases hb3 : NO r ≤ o
            · rw [ift hb3 (by omega)]
              have e : o = NO r := by omega
              subst e
              have hpv : partN (bad r (tv r t) (ixp k)) r (NO r) = PV r t (ixp k) := rfl
              rw [hpv]
              have hold := hp2 (PV r t (ixp k)) hPV
              rw [← s3.2 22 (by decide)] at hold
              have hcc := hle57 (PV r t (ixp k))
              obtain ⟨F, hF⟩ : ∃ F, F = (fun c => cnt (fun j => FK r (NT r) j && decide (PV r t (ixp j) = c)) k) := ⟨_, rfl⟩
              have hFa : ∀ c, cnt (fun j => FK r (NT r) j && decide (PV r t (ixp j) = c)) k = F c := fun c => (congrFun hF c).symm
              rw [← hF] at hmx
              rw [hFa] at hold hcc
              have es2 : (fun c => cnt (fun j => FK r (NT r) j && decide (PV r t (ixp j) = c)) (k + 1)) = upN F (PV r t (ixp k)) (F (PV r t (ixp k)) + 1) := by rw [hF]; exact es
              have em := mxf_up (f := F) (c := PV r t (ixp k)) 729
              have fin := ih (57 - (k + 1)) (nI (mxf (fun c => cnt (fun j => FK r (NT r) j && decide (PV r t (ixp j) = c)) (k + 1)) 729)) (nI (k + 1)) (sA v3 22 (upd (v3.2.1 22) (PV r t (ixp k)) (nI (F (PV r t (ixp k)) + 1)))) (by omega) ⟨k + 1, rfl, rfl, by omega, rfl, (hs2.tr (s3.mono (by decide))).sA _ (by decide), fun c hc => by
                rw [z_sA2]
                have ec := congrFun es2 c
                rw [show cnt (fun j => FK r (NT r) j && decide (PV r t (ixp j) = c)) (k + 1) = upN F (PV r t (ixp k)) (F (PV r t (ixp k)) + 1) c from ec]
                unfold upN
                by_cases hcq : c = PV r t (ixp k)
                · rw [z_u1 _ _ hcq, if_pos hcq]
                · rw [z_u2 _ _ hcq, if_neg hcq, s3.2 22 (by decide), hp2 c hc, hFa]⟩
              rw [es2, em] at fin
              have hFe : mxf (fun c => cnt (fun j => FK r (NT r) j && decide (PV r t (ixp j) = c)) k) 729 = mxf F 729 := by rw [hF]
              rw [hFe]
              by_cases hq : F (PV r t (ixp k)) + 1 ≤ mxf F 729
              · rw [if_neg (by omega)] at fin
                simp (disch := omega) only [z_gt, z_o1, z_o2, z_o3, z_o4, z_o5, z_o6, z_o7, z_o8, z_o9, z_bn, z_jn, nI_add, z_mul, z_sub, z_div, Nat.not_lt_zero, z_cl, z_le, z_lt, z_eq, z_inb, z_nz, z_isB0, z_notJ, z_notI, z_isB1, z_m1, z_pos, z_pos', z_nlt, z_nle', z_m1le, z_m1a, z_nle, z_sI0, z_sI1, z_sI2, z_sI3, z_sJ0, z_sJ1, z_sJ2, z_sJ3, z_sF0, z_sF1, z_sF2, z_sA0, z_sA1, z_sA2, z_sA3, z_sAA, z_sIA, ↓reduceIte, Nat.reduceEqDiff, Nat.reduceLeDiff, Nat.reduceLT, z_l0, z_l1, z_l2, z_l3, z_l4, z_l5, z_l6, z_l7, z_l8, z_l9, z_l10, z_l11, z_l12, z_l13, z_l14, z_l15, z_l16, z_l17, z_l18, z_l19, z_l20, z_l21, z_l22, z_l23, z_l24, z_l25, z_l26, z_l27, z_l28, z_l32, z_l48, z_l56, z_l57, z_l59, z_l63, z_l64, z_l96, z_l97, z_l122, z_l127, z_l152, z_l158, z_l182, z_l255, z_l256, z_l310, z_l342, z_l406, z_l440, z_l729, z_l800, z_l3960, z_l14336, z_l14592, z_l100000, hold, z_u1, hq]
                exact fin
              · rw [if_pos (by omega)] at fin
                simp (disch := omega) only [z_gt, z_o1, z_o2, z_o3, z_o4, z_o5, z_o6, z_o7, z_o8, z_o9, z_bn, z_jn, nI_add, z_mul, z_sub, z_div, Nat.not_lt_zero, z_cl, z_le, z_lt, z_eq, z_inb, z_nz, z_isB0, z_notJ, z_notI, z_isB1, z_m1, z_pos, z_pos', z_nlt, z_nle', z_m1le, z_m1a, z_nle, z_sI0, z_sI1, z_sI2, z_sI3, z_sJ0, z_sJ1, z_sJ2, z_sJ3, z_sF0, z_sF1, z_sF2, z_sA0, z_sA1, z_sA2, z_sA3, z_sAA, z_sIA, ↓reduceIte, Nat.reduceEqDiff, Nat.reduceLeDiff, Nat.reduceLT, z_l0, z_l1, z_l2, z_l3, z_l4, z_l5, z_l6, z_l7, z_l8, z_l9, z_l10, z_l11, z_l12, z_l13, z_l14, z_l15, z_l16, z_l17, z_l18, z_l19, z_l20, z_l21, z_l22, z_l23, z_l24, z_l25, z_l26, z_l27, z_l28, z_l32, z_l48, z_l56, z_l57, z_l59, z_l63, z_l64, z_l96, z_l97, z_l122, z_l127, z_l152, z_l158, z_l182, z_l255, z_l256, z_l310, z_l342, z_l406, z_l440, z_l729, z_l800, z_l3960, z_l14336, z_l14592, z_l100000, hold, z_u1, hq]
                exact fin
            · rw [iff_ hb3 (by omega)]
              obtain ⟨d1, d2⟩ := g_atBent hm3 hw (o := o) (by omega)
              rw [b3 _ d2] at d1
              refine ok_o1e d1 ?_
              rw [z_l3, z_mul, z_l1, nI_add, nI_add]
              refine ih2 _ _ _ (by omega) ⟨o + 1, congrArg nI ?_, rfl, by omega, rfl⟩
              show _ = partN (bad r (tv r t) (ixp k)) r o * 3 + bad r (tv r t) (ixp k) (ou r o)
              omega
      · have e0 : (fun c => cnt (fun j => FK r (NT r) j && decide (PV r t (ixp j) = c)) 0) = fun _ => 0 := rfl
        rw [e0, mxf_z]
        rfl
      · rw [s1.2 22 (by decide)]
        exact hp c (by omega)
    · rw [iff_ hb (by omega)]
      refine ok_gd (z_inb (by omega) (by omega)) ?_
      refine ok_bn ?_
      rw [z_cl (by omega), z_l1, nI_add, z_sIA]
      refine ih _ _ _ (by omega) ⟨c + 1, rfl, by omega, rfl, hs.sA _ (by decide), fun j hj => ?_⟩
      rw [z_sA2]
      by_cases hj2 : j = c
      · rw [z_u1 _ _ hj2]
        rfl
      · rw [z_u2 _ _ hj2]
        exact hp j (by omega)
  obtain ⟨⟨x, v'⟩, e, rfl, hs⟩ := key
  exact ⟨v', e, hs⟩
theorem cnt_inj {p : Nat → Bool} {i j : Nat} (hi : p i = true) (hj : p j = true) (e : cnt p i = cnt p j) : i = j := by
  by_cases h : i < j
  · have := cnt_up h hi
    omega
  · by_cases h2 : j < i
    · have := cnt_up h2 hj
      omega
    · omega
theorem y_greatestPart {r : Nat → Int32} (hw : WFc r) (ht : WFt r) {vF vC vRT vG : Vs} (hC : RC r vC) (h4 : vRT.1 4 = nI 1) (hTR : TR r vRT vG) (hL : LF r vF) (h0 : ∀ j, j < 729 → vF.2.1 8 j = nI 0) {t : Nat} (h1 : t < NT r) :
    ∃ f, f_X7_greatestPart vF vC 342 vRT (nI t) (nI (FC r)) = some (nI (GP r t), sA vF 8 f) ∧ ∀ j, j < 729 → f j = nI 0 := by
  have hn := hw.nf
  have h16 := ht.1.2
  have h57 := FC_57 hw
  have hpo : ∀ p, p ≤ NF r → f_X3_partOf 342 vRT vC (fI p) (nI t) = some (nI (PV r t p)) := fun p hp => by
    have := x_partOf hw ht hC h4 hTR hp (t := t) (by omega)
    rw [tq_t h1] at this
    exact this
  have key : Ok (f_X7_greatestPart vF vC 342 vRT (nI t) (nI (FC r))) (fun q => ∃ f, q = (nI (GP r t), sA vF 8 f) ∧ ∀ j, j < 729 → f j = nI 0) := by
    unfold f_X7_greatestPart
    refine zl3 (I := fun m x y v => ∃ k P f, x = nI (mxf (fun c => cnt (fun p => FPb r p && decide (PV r t p = c)) P) 729) ∧ y = nI k ∧ v = sA vF 8 f ∧ k ≤ FC r ∧ m = FC r - k ∧ P ≤ NF r + 1 ∧ cnt (FPb r) P = k ∧ ∀ c, c < 729 → f c = nI (cnt (fun p => FPb r p && decide (PV r t p = c)) P)) ?_ FU (FC r) _ _ _ (by unfold FU; omega) ⟨0, 0, vF.2.1 8, ?_, rfl, (z_sAs vF 8).symm, by omega, by omega, by omega, rfl, fun c hc => h0 c hc⟩
    · rintro m x y v self ⟨k, P, f, rfl, rfl, rfl, hle, rfl, hP, hcP, hf⟩ ih
      unfold f_X7_greatestPart_L5
      have hb57 : ∀ Q c, Q ≤ NF r + 1 → cnt (fun p => FPb r p && decide (PV r t p = c)) Q ≤ 57 := fun Q c hQ => by
        have := cnt_le (fun p => FPb r p && decide (PV r t p = c)) Q
        omega
      by_cases hb : FC r ≤ k
      · rw [ift hb (by omega)]
        have ek : k = FC r := by omega
        have ef : ∀ c, cnt (fun p => FPb r p && decide (PV r t p = c)) P = CN r t c := fun c => cnt_same (Q := FPb r) (R := fun p => decide (PV r t p = c)) hP (by rw [hcP, ek]; rfl)
        have eg : mxf (fun c => cnt (fun p => FPb r p && decide (PV r t p = c)) P) 729 = GP r t := mxf_cong _ (fun c _ => ef c)
        rw [eg]
        refine zl2 (I := fun m y v => ∃ k f, y = nI k ∧ v = sA vF 8 f ∧ k ≤ FC r ∧ m = FC r - k ∧ ∀ c, c < 729 → (∀ p, p ≤ NF r → FPb r p = true → k ≤ cnt (FPb r) p → PV r t p ≠ c) → f c = nI 0) ?_ FU (FC r) _ _ (by unfold FU; omega) ⟨0, f, rfl, rfl, by omega, by omega, fun c hc hno => ?_⟩
        · clear ih
          rintro m y v self ⟨k, f, rfl, rfl, hle, rfl, hf⟩ ih
          unfold f_X7_greatestPart_L67
          by_cases hb2 : FC r ≤ k
          · rw [ift hb2 (by omega)]
            refine ok_some ⟨f, rfl, fun c hc => hf c hc (fun p hp1 hp2 hp3 => ?_)⟩
            have := cnt_up (p := FPb r) (i := p) (n := NF r + 1) (by omega) hp2
            unfold FC at hb2
            omega
          · rw [iff_ hb2 (by omega)]
            obtain ⟨p, hp1, hp2, hp3⟩ := cnt_kth (p := FPb r) (k := k) (NF r + 1) (by unfold FC at hb2; omega)
            have hLp := hL p (by omega) hp2
            rw [hp3] at hLp
            have hPV := PV_lt hw ht (p := p) h1
            have ih' := ih (FC r - (k + 1)) (nI (k + 1)) (sA vF 8 (upd f (PV r t p) (nI 0))) (by omega) ⟨k + 1, _, rfl, rfl, by omega, rfl, fun c hc hno => by
              by_cases hcp : c = PV r t p
              · rw [z_u1 _ _ hcp]
              · rw [z_u2 _ _ hcp]
                refine hf c hc (fun q hq1 hq2 hq3 => ?_)
                by_cases hqk : cnt (FPb r) q = k
                · have : q = p := cnt_inj hq2 hp2 (by rw [hqk, hp3])
                  rw [this]
                  exact fun z => hcp z.symm
                · exact hno q hq1 hq2 (by omega)⟩
            simp (disch := omega) only [z_gt, z_o1, z_o2, z_o3, z_o4, z_o5, z_o6, z_o7, z_o8, z_o9, z_bn, z_jn, nI_add, z_mul, z_sub, z_div, Nat.not_lt_zero, z_cl, z_le, z_lt, z_eq, z_inb, z_nz, z_isB0, z_notJ, z_notI, z_isB1, z_m1, z_pos, z_pos', z_nlt, z_nle', z_m1le, z_m1a, z_nle, z_sI0, z_sI1, z_sI2, z_sI3, z_sJ0, z_sJ1, z_sJ2, z_sJ3, z_sF0, z_sF1, z_sF2, z_sA0, z_sA1, z_sA2, z_sA3, z_sAA, z_sIA, ↓reduceIte, Nat.reduceEqDiff, Nat.reduceLeDiff, Nat.reduceLT, z_l0, z_l1, z_l2, z_l3, z_l4, z_l5, z_l6, z_l7, z_l8, z_l9, z_l10, z_l11, z_l12, z_l13, z_l14, z_l15, z_l16, z_l17, z_l18, z_l19, z_l20, z_l21, z_l22, z_l23, z_l24, z_l25, z_l26, z_l27, z_l28, z_l32, z_l48, z_l56, z_l57, z_l59, z_l63, z_l64, z_l96, z_l97, z_l122, z_l127, z_l152, z_l158, z_l182, z_l255, z_l256, z_l310, z_l342, z_l406, z_l440, z_l729, z_l800, z_l3960, z_l14336, z_l14592, z_l100000, hLp, hpo p (by omega)]
            exact ih'
        · rw [hf c hc]
          refine congrArg nI ?_
          rw [ef c]
          unfold CN
          refine cnt_zero _ (fun p hp => ?_)
          cases hd : FPb r p with
          | false => rfl
          | true =>
            have := hno p (by omega) hd (Nat.zero_le _)
            simp [this]
      · rw [iff_ hb (by omega)]
        obtain ⟨p, hp1, hp2, hp3⟩ := cnt_kth (p := FPb r) (k := k) (NF r + 1) (by unfold FC at hb; omega)
        have hLp := hL p (by omega) hp2
        rw [hp3] at hLp
        have hPV := PV_lt hw ht (p := p) h1
        have hPp : P ≤ p := by
          refine Classical.byContradiction (fun q => ?_)
          have := cnt_up (p := FPb r) (i := p) (n := P) (by omega) hp2
          omega
        have esm : ∀ c, cnt (fun p => FPb r p && decide (PV r t p = c)) P = cnt (fun p => FPb r p && decide (PV r t p = c)) p := fun c => cnt_same (Q := FPb r) (R := fun p => decide (PV r t p = c)) hPp (by rw [hcP, hp3])
        have hmeq : mxf (fun c => cnt (fun p => FPb r p && decide (PV r t p = c)) P) 729 = mxf (fun c => cnt (fun j => FPb r j && decide (PV r t j = c)) p) 729 := mxf_cong _ (fun c _ => esm c)
        rw [hmeq]
        have es := cnt_step (fun j => FPb r j) (fun j => PV r t j) p hp2
        have hmx : mxf (fun c => cnt (fun j => FPb r j && decide (PV r t j = c)) p) 729 ≤ 57 := mxf_le _ (fun c _ => hb57 p c (by omega))
        have hcc := hb57 p (PV r t p) (by omega)
        have hold := hf (PV r t p) hPV
        rw [esm] at hold
        obtain ⟨F, hF⟩ : ∃ F, F = (fun c => cnt (fun j => FPb r j && decide (PV r t j = c)) p) := ⟨_, rfl⟩
        have hFa : ∀ c, cnt (fun j => FPb r j && decide (PV r t j = c)) p = F c := fun c => (congrFun hF c).symm
        rw [← hF] at hmx ⊢
        rw [hFa] at hold hcc
        have es2 : (fun c => cnt (fun j => FPb r j && decide (PV r t j = c)) (p + 1)) = upN F (PV r t p) (F (PV r t p) + 1) := by rw [hF]; exact es
        have em := mxf_up (f := F) (c := PV r t p) 729
        have ecp : cnt (FPb r) (p + 1) = k + 1 := by
          show cnt (FPb r) p + (if FPb r p then 1 else 0) = _
          rw [hp2, hp3]
          rfl
        have fin := ih (FC r - (k + 1)) (nI (mxf (fun c => cnt (fun j => FPb r j && decide (PV r t j = c)) (p + 1)) 729)) (nI (k + 1)) (sA vF 8 (upd f (PV r t p) (nI (F (PV r t p) + 1)))) (by omega) ⟨k + 1, p + 1, _, rfl, rfl, rfl, by omega, rfl, by omega, ecp, fun c hc => by
          rw [show cnt (fun j => FPb r j && decide (PV r t j = c)) (p + 1) = upN F (PV r t p) (F (PV r t p) + 1) c from congrFun es2 c]
          unfold upN
          by_cases hcq : c = PV r t p
          · rw [z_u1 _ _ hcq, if_pos hcq]
          · rw [z_u2 _ _ hcq, if_neg hcq, hf c hc, esm, hFa]⟩
        rw [es2, em] at fin
        by_cases hq : mxf F 729 < F (PV r t p) + 1
        · rw [if_pos (by omega)] at fin
          simp (disch := omega) only [z_gt, z_o1, z_o2, z_o3, z_o4, z_o5, z_o6, z_o7, z_o8, z_o9, z_bn, z_jn, nI_add, z_mul, z_sub, z_div, Nat.not_lt_zero, z_cl, z_le, z_lt, z_eq, z_inb, z_nz, z_isB0, z_notJ, z_notI, z_isB1, z_m1, z_pos, z_pos', z_nlt, z_nle', z_m1le, z_m1a, z_nle, z_sI0, z_sI1, z_sI2, z_sI3, z_sJ0, z_sJ1, z_sJ2, z_sJ3, z_sF0, z_sF1, z_sF2, z_sA0, z_sA1, z_sA2, z_sA3, z_sAA, z_sIA, ↓reduceIte, Nat.reduceEqDiff, Nat.reduceLeDiff, Nat.reduceLT, z_l0, z_l1, z_l2, z_l3, z_l4, z_l5, z_l6, z_l7, z_l8, z_l9, z_l10, z_l11, z_l12, z_l13, z_l14, z_l15, z_l16, z_l17, z_l18, z_l19, z_l20, z_l21, z_l22, z_l23, z_l24, z_l25, z_l26, z_l27, z_l28, z_l32, z_l48, z_l56, z_l57, z_l59, z_l63, z_l64, z_l96, z_l97, z_l122, z_l127, z_l152, z_l158, z_l182, z_l255, z_l256, z_l310, z_l342, z_l406, z_l440, z_l729, z_l800, z_l3960, z_l14336, z_l14592, z_l100000, hLp, hpo p (by omega), hold, z_u1, hq]
          exact fin
        · rw [if_neg (by omega)] at fin
          simp (disch := omega) only [z_gt, z_o1, z_o2, z_o3, z_o4, z_o5, z_o6, z_o7, z_o8, z_o9, z_bn, z_jn, nI_add, z_mul, z_sub, z_div, Nat.not_lt_zero, z_cl, z_le, z_lt, z_eq, z_inb, z_nz, z_isB0, z_notJ, z_notI, z_isB1, z_m1, z_pos, z_pos', z_nlt, z_nle', z_m1le, z_m1a, z_nle, z_sI0, z_sI1, z_sI2, z_sI3, z_sJ0, z_sJ1, z_sJ2, z_sJ3, z_sF0, z_sF1, z_sF2, z_sA0, z_sA1, z_sA2, z_sA3, z_sAA, z_sIA, ↓reduceIte, Nat.reduceEqDiff, Nat.reduceLeDiff, Nat.reduceLT, z_l0, z_l1, z_l2, z_l3, z_l4, z_l5, z_l6, z_l7, z_l8, z_l9, z_l10, z_l11, z_l12, z_l13, z_l14, z_l15, z_l16, z_l17, z_l18, z_l19, z_l20, z_l21, z_l22, z_l23, z_l24, z_l25, z_l26, z_l27, z_l28, z_l32, z_l48, z_l56, z_l57, z_l59, z_l63, z_l64, z_l96, z_l97, z_l122, z_l127, z_l152, z_l158, z_l182, z_l255, z_l256, z_l310, z_l342, z_l406, z_l440, z_l729, z_l800, z_l3960, z_l14336, z_l14592, z_l100000, hLp, hpo p (by omega), hold, z_u1, hq]
          exact fin
    · have e0 : (fun c => cnt (fun p => FPb r p && decide (PV r t p = c)) 0) = fun _ => 0 := rfl
      rw [e0, mxf_z]
      rfl
  obtain ⟨q, e, f, rfl, hf⟩ := key
  exact ⟨f, e, hf⟩
/-- the best test below n, its greatest part -/
def bst (r : Nat → Int32) : Nat → Int32 × Nat
  | 0 => (im1, 0)
  | t + 1 => if (bst r t).1 = im1 ∨ GP r t < (bst r t).2 then (nI t, GP r t) else bst r t
theorem GP_le {r : Nat → Int32} (hw : WFc r) (t : Nat) : GP r t ≤ 57 := mxf_le _ (fun c _ => by
  have hn := hw.nf
  have := cnt_le (fun p => FPb r p && decide (PV r t p = c)) (NF r + 1)
  unfold CN
  omega)
theorem bst_is {r : Nat → Int32} (hw : WFc r) : ∀ n, ((bst r n).1 = im1 ∨ ∃ k, k < n ∧ (bst r n).1 = nI k) ∧ (bst r n).2 ≤ 57
  | 0 => ⟨Or.inl rfl, Nat.zero_le _⟩
  | n + 1 => by
    obtain ⟨a, b⟩ := bst_is hw n
    have e : bst r (n + 1) = if (bst r n).1 = im1 ∨ GP r n < (bst r n).2 then (nI n, GP r n) else bst r n := rfl
    by_cases h : (bst r n).1 = im1 ∨ GP r n < (bst r n).2
    · rw [e, if_pos h]
      exact ⟨Or.inr ⟨n, by omega, rfl⟩, GP_le hw n⟩
    · rw [e, if_neg h]
      refine ⟨?_, b⟩
      rcases a with a | ⟨k, hk, a⟩
      · exact Or.inl a
      · exact Or.inr ⟨k, by omega, a⟩
theorem q_nextTest {r : Nat → Int32} (hw : WFc r) (ht : WFt r) {vF vC vT vRT vG vB vRF vM : Vs} {n : Nat} (hC : RC r vC) (hT : RT r vT) (hF : FI r vF vRT vG vRF) (hM : MS vM n r) :
    ∃ x vF' vRT' vG' vB' vM', f_X7_nextTest vF vC vT 342 vRT vG vB = some (x, vF', vRT', vG', vB') ∧ FI r vF' vRT' vG' vRF ∧ f_X8_nextTest vM = some (x, vM') ∧ QM vM vM' := by
  have hn := hw.nf
  have h16 := ht.1.2
  have h57 := FC_57 hw
  have M0 := hM.sF 0 (nI 0) (by decide)
  obtain ⟨vF1, vRT', vG', vB', e, hF', hTR, hL, -⟩ := y_listFitting hw ht (vB := vB) hC hT hF
  obtain ⟨v2, e2, s2, hz⟩ := h_fitting M0 hw ht
  have hm := M0.sc s2 (by decide)
  have Q2 : QM vM v2 := (QM.th _ _).tr (QM.sc s2 (by decide) (by decide))
  by_cases h2 : 2 ≤ FC r
  · have kX : Ok (f_X7_nextTest vF vC vT 342 vRT vG vB) (fun q => ∃ f, q = ((bst r (NT r)).1, sA vF1 8 f, vRT', vG', vB') ∧ ∀ j, j < 729 → f j = nI 0) := by
      unfold f_X7_nextTest
      rw [e, z_o5, z_l2, ift h2 (by omega)]
      refine zl4 (I := fun m x y z v => ∃ t f, x = (bst r t).1 ∧ y = nI (bst r t).2 ∧ z = nI t ∧ v = sA vF1 8 f ∧ t ≤ NT r ∧ m = NT r - t ∧ ∀ j, j < 729 → f j = nI 0) ?_ FU (NT r) _ _ _ _ (by unfold FU; omega) ⟨0, vF1.2.1 8, rfl, rfl, rfl, (z_sAs vF1 8).symm, by omega, by omega, hF'.2.2.2.2⟩
      rintro m x y z v self ⟨t, f, rfl, rfl, rfl, rfl, hle, rfl, hf⟩ ih
      unfold f_X7_nextTest_L19
      rw [hT.1]
      by_cases hb : NT r ≤ t
      · rw [ift hb (by omega)]
        have et : t = NT r := by omega
        subst et
        exact ok_some ⟨f, rfl, hf⟩
      · rw [iff_ hb (by omega)]
        have hLf : LF r (sA vF1 8 f) := fun q hq hp => by
          rw [z_sA3 _ _ _ (by decide)]
          exact hL q hq hp
        obtain ⟨g, eg, hg⟩ := y_greatestPart hw ht hC hF'.2.2.1 hTR hLf (fun j hj => by rw [z_sA2]; exact hf j hj) (t := t) (by omega)
        rw [z_sAA] at eg
        refine ok_o2e eg ?_
        have hGP := GP_le hw t
        obtain ⟨hb1, hb2⟩ := bst_is hw t
        have eb : bst r (t + 1) = if (bst r t).1 = im1 ∨ GP r t < (bst r t).2 then (nI t, GP r t) else bst r t := rfl
        have fin := ih (NT r - (t + 1)) (bst r (t + 1)).1 (nI (bst r (t + 1)).2) (nI (t + 1)) (sA vF1 8 g) (by omega) ⟨t + 1, g, rfl, rfl, rfl, rfl, by omega, rfl, hg⟩
        rw [eb] at fin
        rcases hb1 with hb1 | ⟨k, hk, hb1⟩
        · rw [if_pos (Or.inl hb1)] at fin
          rw [hb1]
          simp (disch := omega) only [z_gt, z_o1, z_o2, z_o3, z_o4, z_o5, z_o6, z_o7, z_o8, z_o9, z_bn, z_jn, nI_add, z_mul, z_sub, z_div, Nat.not_lt_zero, z_cl, z_le, z_lt, z_eq, z_inb, z_nz, z_isB0, z_notJ, z_notI, z_isB1, z_m1, z_pos, z_pos', z_nlt, z_nle', z_m1le, z_m1a, z_nle, z_sI0, z_sI1, z_sI2, z_sI3, z_sJ0, z_sJ1, z_sJ2, z_sJ3, z_sF0, z_sF1, z_sF2, z_sA0, z_sA1, z_sA2, z_sA3, z_sAA, z_sIA, ↓reduceIte, Nat.reduceEqDiff, Nat.reduceLeDiff, Nat.reduceLT, z_l0, z_l1, z_l2, z_l3, z_l4, z_l5, z_l6, z_l7, z_l8, z_l9, z_l10, z_l11, z_l12, z_l13, z_l14, z_l15, z_l16, z_l17, z_l18, z_l19, z_l20, z_l21, z_l22, z_l23, z_l24, z_l25, z_l26, z_l27, z_l28, z_l32, z_l48, z_l56, z_l57, z_l59, z_l63, z_l64, z_l96, z_l97, z_l122, z_l127, z_l152, z_l158, z_l182, z_l255, z_l256, z_l310, z_l342, z_l406, z_l440, z_l729, z_l800, z_l3960, z_l14336, z_l14592, z_l100000]
          exact fin
        · have hne : ¬ (bst r t).1 = im1 := by rw [hb1]; exact fun q => (z_pos' (by omega)).mp q
          by_cases hq : GP r t < (bst r t).2
          · rw [if_pos (Or.inr hq)] at fin
            rw [hb1]
            simp (disch := omega) only [z_gt, z_o1, z_o2, z_o3, z_o4, z_o5, z_o6, z_o7, z_o8, z_o9, z_bn, z_jn, nI_add, z_mul, z_sub, z_div, Nat.not_lt_zero, z_cl, z_le, z_lt, z_eq, z_inb, z_nz, z_isB0, z_notJ, z_notI, z_isB1, z_m1, z_pos, z_pos', z_nlt, z_nle', z_m1le, z_m1a, z_nle, z_sI0, z_sI1, z_sI2, z_sI3, z_sJ0, z_sJ1, z_sJ2, z_sJ3, z_sF0, z_sF1, z_sF2, z_sA0, z_sA1, z_sA2, z_sA3, z_sAA, z_sIA, ↓reduceIte, Nat.reduceEqDiff, Nat.reduceLeDiff, Nat.reduceLT, z_l0, z_l1, z_l2, z_l3, z_l4, z_l5, z_l6, z_l7, z_l8, z_l9, z_l10, z_l11, z_l12, z_l13, z_l14, z_l15, z_l16, z_l17, z_l18, z_l19, z_l20, z_l21, z_l22, z_l23, z_l24, z_l25, z_l26, z_l27, z_l28, z_l32, z_l48, z_l56, z_l57, z_l59, z_l63, z_l64, z_l96, z_l97, z_l122, z_l127, z_l152, z_l158, z_l182, z_l255, z_l256, z_l310, z_l342, z_l406, z_l440, z_l729, z_l800, z_l3960, z_l14336, z_l14592, z_l100000, show ¬ (bst r t).2 ≤ GP r t by omega]
            exact fin
          · rw [if_neg (fun z => by rcases z with z | z; exact hne z; exact hq z)] at fin
            rw [hb1] at fin ⊢
            simp (disch := omega) only [z_gt, z_o1, z_o2, z_o3, z_o4, z_o5, z_o6, z_o7, z_o8, z_o9, z_bn, z_jn, nI_add, z_mul, z_sub, z_div, Nat.not_lt_zero, z_cl, z_le, z_lt, z_eq, z_inb, z_nz, z_isB0, z_notJ, z_notI, z_isB1, z_m1, z_pos, z_pos', z_nlt, z_nle', z_m1le, z_m1a, z_nle, z_sI0, z_sI1, z_sI2, z_sI3, z_sJ0, z_sJ1, z_sJ2, z_sJ3, z_sF0, z_sF1, z_sF2, z_sA0, z_sA1, z_sA2, z_sA3, z_sAA, z_sIA, ↓reduceIte, Nat.reduceEqDiff, Nat.reduceLeDiff, Nat.reduceLT, z_l0, z_l1, z_l2, z_l3, z_l4, z_l5, z_l6, z_l7, z_l8, z_l9, z_l10, z_l11, z_l12, z_l13, z_l14, z_l15, z_l16, z_l17, z_l18, z_l19, z_l20, z_l21, z_l22, z_l23, z_l24, z_l25, z_l26, z_l27, z_l28, z_l32, z_l48, z_l56, z_l57, z_l59, z_l63, z_l64, z_l96, z_l97, z_l122, z_l127, z_l152, z_l158, z_l182, z_l255, z_l256, z_l310, z_l342, z_l406, z_l440, z_l729, z_l800, z_l3960, z_l14336, z_l14592, z_l100000, show (bst r t).2 ≤ GP r t by omega]
            exact fin
    have kM : Ok (f_X8_nextTest vM) (fun q => q.1 = (bst r (NT r)).1 ∧ SC [6, 7, 8, 22] v2 q.2) := by
      unfold f_X8_nextTest
      rw [z_l0, z_bn, e2, z_o2, z_l2, ift h2 (by omega)]
      refine zl4 (I := fun m x y z v => ∃ t, x = (bst r t).1 ∧ y = nI (bst r t).2 ∧ z = nI t ∧ t ≤ NT r ∧ m = NT r - t ∧ SC [6, 7, 8, 22] v2 v) ?_ FU (NT r) _ _ _ _ (by unfold FU; omega) ⟨0, rfl, rfl, rfl, by omega, by omega, SC.rf _ _⟩
      rintro m x y z v self ⟨t, rfl, rfl, rfl, hle, rfl, hs⟩ ih
      have hm2 := hm.sc hs (by decide)
      unfold f_X8_nextTest_L21
      refine ok_o1e (g_tests hm2 ht) ?_
      by_cases hb : NT r ≤ t
      · rw [ift hb (by omega)]
        have et : t = NT r := by omega
        subst et
        exact ok_some ⟨rfl, hs⟩
      · rw [iff_ hb (by omega)]
        obtain ⟨v3, e3, s3⟩ := h_greatest hm2 hw ht (fun k hk => by rw [hs.2 21 (by decide)]; exact hz k hk) (t := t) (by omega)
        refine ok_o2e e3 ?_
        have hGP := GP_le hw t
        obtain ⟨hb1, hb2⟩ := bst_is hw t
        have eb : bst r (t + 1) = if (bst r t).1 = im1 ∨ GP r t < (bst r t).2 then (nI t, GP r t) else bst r t := rfl
        have fin := ih (NT r - (t + 1)) (bst r (t + 1)).1 (nI (bst r (t + 1)).2) (nI (t + 1)) v3 (by omega) ⟨t + 1, rfl, rfl, rfl, by omega, rfl, hs.tr s3⟩
        rw [eb] at fin
        rcases hb1 with hb1 | ⟨k, hk, hb1⟩
        · rw [if_pos (Or.inl hb1)] at fin
          rw [hb1]
          simp (disch := omega) only [z_gt, z_o1, z_o2, z_o3, z_o4, z_o5, z_o6, z_o7, z_o8, z_o9, z_bn, z_jn, nI_add, z_mul, z_sub, z_div, Nat.not_lt_zero, z_cl, z_le, z_lt, z_eq, z_inb, z_nz, z_isB0, z_notJ, z_notI, z_isB1, z_m1, z_pos, z_pos', z_nlt, z_nle', z_m1le, z_m1a, z_nle, z_sI0, z_sI1, z_sI2, z_sI3, z_sJ0, z_sJ1, z_sJ2, z_sJ3, z_sF0, z_sF1, z_sF2, z_sA0, z_sA1, z_sA2, z_sA3, z_sAA, z_sIA, ↓reduceIte, Nat.reduceEqDiff, Nat.reduceLeDiff, Nat.reduceLT, z_l0, z_l1, z_l2, z_l3, z_l4, z_l5, z_l6, z_l7, z_l8, z_l9, z_l10, z_l11, z_l12, z_l13, z_l14, z_l15, z_l16, z_l17, z_l18, z_l19, z_l20, z_l21, z_l22, z_l23, z_l24, z_l25, z_l26, z_l27, z_l28, z_l32, z_l48, z_l56, z_l57, z_l59, z_l63, z_l64, z_l96, z_l97, z_l122, z_l127, z_l152, z_l158, z_l182, z_l255, z_l256, z_l310, z_l342, z_l406, z_l440, z_l729, z_l800, z_l3960, z_l14336, z_l14592, z_l100000]
          exact fin
        · have hne : ¬ (bst r t).1 = im1 := by rw [hb1]; exact fun q => (z_pos' (by omega)).mp q
          by_cases hq : GP r t < (bst r t).2
          · rw [if_pos (Or.inr hq)] at fin
            rw [hb1]
            simp (disch := omega) only [z_gt, z_o1, z_o2, z_o3, z_o4, z_o5, z_o6, z_o7, z_o8, z_o9, z_bn, z_jn, nI_add, z_mul, z_sub, z_div, Nat.not_lt_zero, z_cl, z_le, z_lt, z_eq, z_inb, z_nz, z_isB0, z_notJ, z_notI, z_isB1, z_m1, z_pos, z_pos', z_nlt, z_nle', z_m1le, z_m1a, z_nle, z_sI0, z_sI1, z_sI2, z_sI3, z_sJ0, z_sJ1, z_sJ2, z_sJ3, z_sF0, z_sF1, z_sF2, z_sA0, z_sA1, z_sA2, z_sA3, z_sAA, z_sIA, ↓reduceIte, Nat.reduceEqDiff, Nat.reduceLeDiff, Nat.reduceLT, z_l0, z_l1, z_l2, z_l3, z_l4, z_l5, z_l6, z_l7, z_l8, z_l9, z_l10, z_l11, z_l12, z_l13, z_l14, z_l15, z_l16, z_l17, z_l18, z_l19, z_l20, z_l21, z_l22, z_l23, z_l24, z_l25, z_l26, z_l27, z_l28, z_l32, z_l48, z_l56, z_l57, z_l59, z_l63, z_l64, z_l96, z_l97, z_l122, z_l127, z_l152, z_l158, z_l182, z_l255, z_l256, z_l310, z_l342, z_l406, z_l440, z_l729, z_l800, z_l3960, z_l14336, z_l14592, z_l100000, hq]
            exact fin
          · rw [if_neg (fun z => by rcases z with z | z; exact hne z; exact hq z)] at fin
            rw [hb1] at fin ⊢
            simp (disch := omega) only [z_gt, z_o1, z_o2, z_o3, z_o4, z_o5, z_o6, z_o7, z_o8, z_o9, z_bn, z_jn, nI_add, z_mul, z_sub, z_div, Nat.not_lt_zero, z_cl, z_le, z_lt, z_eq, z_inb, z_nz, z_isB0, z_notJ, z_notI, z_isB1, z_m1, z_pos, z_pos', z_nlt, z_nle', z_m1le, z_m1a, z_nle, z_sI0, z_sI1, z_sI2, z_sI3, z_sJ0, z_sJ1, z_sJ2, z_sJ3, z_sF0, z_sF1, z_sF2, z_sA0, z_sA1, z_sA2, z_sA3, z_sAA, z_sIA, ↓reduceIte, Nat.reduceEqDiff, Nat.reduceLeDiff, Nat.reduceLT, z_l0, z_l1, z_l2, z_l3, z_l4, z_l5, z_l6, z_l7, z_l8, z_l9, z_l10, z_l11, z_l12, z_l13, z_l14, z_l15, z_l16, z_l17, z_l18, z_l19, z_l20, z_l21, z_l22, z_l23, z_l24, z_l25, z_l26, z_l27, z_l28, z_l32, z_l48, z_l56, z_l57, z_l59, z_l63, z_l64, z_l96, z_l97, z_l122, z_l127, z_l152, z_l158, z_l182, z_l255, z_l256, z_l310, z_l342, z_l406, z_l440, z_l729, z_l800, z_l3960, z_l14336, z_l14592, z_l100000, hq]
            exact fin
    obtain ⟨q, eX, f, rfl, hf⟩ := kX
    obtain ⟨⟨x, v3⟩, eM, hx, s3⟩ := kM
    have hx' : x = (bst r (NT r)).1 := hx
    rw [hx'] at eM
    exact ⟨_, sA vF1 8 f, vRT', vG', vB', v3, eX, ⟨hF'.1, hF'.2.1, hF'.2.2.1, hF'.2.2.2.1, fun j hj => by rw [z_sA2]; exact hf j hj⟩, eM, Q2.tr (QM.sc s3 (by decide) (by decide))⟩
  · refine ⟨im1, vF1, vRT', vG', vB', v2, ?_, hF', ?_, Q2⟩
    · unfold f_X7_nextTest
      simp (disch := omega) only [z_gt, z_o1, z_o2, z_o3, z_o4, z_o5, z_o6, z_o7, z_o8, z_o9, z_bn, z_jn, nI_add, z_mul, z_sub, z_div, Nat.not_lt_zero, z_cl, z_le, z_lt, z_eq, z_inb, z_nz, z_isB0, z_notJ, z_notI, z_isB1, z_m1, z_pos, z_pos', z_nlt, z_nle', z_m1le, z_m1a, z_nle, z_sI0, z_sI1, z_sI2, z_sI3, z_sJ0, z_sJ1, z_sJ2, z_sJ3, z_sF0, z_sF1, z_sF2, z_sA0, z_sA1, z_sA2, z_sA3, z_sAA, z_sIA, ↓reduceIte, Nat.reduceEqDiff, Nat.reduceLeDiff, Nat.reduceLT, z_l0, z_l1, z_l2, z_l3, z_l4, z_l5, z_l6, z_l7, z_l8, z_l9, z_l10, z_l11, z_l12, z_l13, z_l14, z_l15, z_l16, z_l17, z_l18, z_l19, z_l20, z_l21, z_l22, z_l23, z_l24, z_l25, z_l26, z_l27, z_l28, z_l32, z_l48, z_l56, z_l57, z_l59, z_l63, z_l64, z_l96, z_l97, z_l122, z_l127, z_l152, z_l158, z_l182, z_l255, z_l256, z_l310, z_l342, z_l406, z_l440, z_l729, z_l800, z_l3960, z_l14336, z_l14592, z_l100000, e, h2]
    · unfold f_X8_nextTest
      simp (disch := omega) only [z_gt, z_o1, z_o2, z_o3, z_o4, z_o5, z_o6, z_o7, z_o8, z_o9, z_bn, z_jn, nI_add, z_mul, z_sub, z_div, Nat.not_lt_zero, z_cl, z_le, z_lt, z_eq, z_inb, z_nz, z_isB0, z_notJ, z_notI, z_isB1, z_m1, z_pos, z_pos', z_nlt, z_nle', z_m1le, z_m1a, z_nle, z_sI0, z_sI1, z_sI2, z_sI3, z_sJ0, z_sJ1, z_sJ2, z_sJ3, z_sF0, z_sF1, z_sF2, z_sA0, z_sA1, z_sA2, z_sA3, z_sAA, z_sIA, ↓reduceIte, Nat.reduceEqDiff, Nat.reduceLeDiff, Nat.reduceLT, z_l0, z_l1, z_l2, z_l3, z_l4, z_l5, z_l6, z_l7, z_l8, z_l9, z_l10, z_l11, z_l12, z_l13, z_l14, z_l15, z_l16, z_l17, z_l18, z_l19, z_l20, z_l21, z_l22, z_l23, z_l24, z_l25, z_l26, z_l27, z_l28, z_l32, z_l48, z_l56, z_l57, z_l59, z_l63, z_l64, z_l96, z_l97, z_l122, z_l127, z_l152, z_l158, z_l182, z_l255, z_l256, z_l310, z_l342, z_l406, z_l440, z_l729, z_l800, z_l3960, z_l14336, z_l14592, z_l100000, e2, h2]
