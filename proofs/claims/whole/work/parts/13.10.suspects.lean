/-! suspects: both list the same -/
def ixp (k : Nat) : Nat := if k = 56 then 0 else k + 1
def FK (r : Nat → Int32) (n k : Nat) : Bool := decide (k < NF r ∨ k = 56) && FN r (ixp k) n
theorem g_at {v : Vs} {k : Nat} (h : k < 57) : f_X8_faultAtIndex v (nI k) = some (fI (ixp k)) := by
  unfold f_X8_faultAtIndex ixp
  by_cases q : k = 56
  · subst q
    rfl
  · rw [if_neg q, z_jn, z_l56, ief q (by omega) (by omega), fI_s]
theorem nar0 : vp_nar .boolean (nI 0) = nI 0 := by decide
theorem nar1 : vp_nar .boolean (nI 1) = nI 1 := by decide
/-- how many fit -/
def FC (r : Nat → Int32) : Nat := cnt (FPb r) (NF r + 1)
theorem cnt_one (p : Nat → Bool) (n : Nat) : cnt p (1 + n) = (if p 0 then 1 else 0) + cnt (fun k => p (k + 1)) n := by
  rw [cnt_split]
  congr 1
  · show 0 + _ = _
    rw [Nat.zero_add]
  · exact cnt_cong _ (fun k _ => by rw [Nat.add_comm])
theorem FK_lt {r : Nat → Int32} (hw : WFc r) {n k : Nat} (h : k < NF r) : FK r n k = FN r (k + 1) n := by
  have hn := hw.nf
  unfold FK ixp
  rw [if_neg (by omega)]
  simp [h]
theorem FK_56 (r : Nat → Int32) (n : Nat) : FK r n 56 = FN r 0 n := by
  unfold FK ixp
  simp
theorem FK_mid {r : Nat → Int32} {n k : Nat} (h1 : NF r ≤ k) (h2 : k < 56) : FK r n k = false := by
  unfold FK
  have a : ¬ k < NF r := by omega
  have b : ¬ k = 56 := by omega
  simp [a, b]
/-- counting over the reference's indexes, or over p -/
theorem cnt_FK {r : Nat → Int32} (hw : WFc r) (Q : Nat → Bool) : cnt (fun k => FK r (NT r) k && Q (ixp k)) 57 = cnt (fun p => FPb r p && Q p) (NF r + 1) := by
  have hn := hw.nf
  have e1 : cnt (fun k => FK r (NT r) k && Q (ixp k)) 57 = cnt (fun k => FK r (NT r) k && Q (ixp k)) 56 + (if FK r (NT r) 56 && Q (ixp 56) then 1 else 0) := rfl
  rw [e1, cnt_cut (m := NF r) 56 (by omega) (fun k h1 h2 => by rw [FK_mid h1 h2]; rfl), FK_56, Nat.add_comm (NF r) 1, cnt_one, Nat.add_comm]
  congr 1
  refine cnt_cong _ (fun k hk => ?_)
  rw [FK_lt hw hk]
  have : ixp k = k + 1 := by unfold ixp; rw [if_neg (by omega)]
  rw [this]
  rfl
theorem cnt_FK' {r : Nat → Int32} (hw : WFc r) : cnt (fun k => FK r (NT r) k) 57 = FC r := by
  have h := cnt_FK hw (fun _ => true)
  simp only [Bool.and_true] at h
  exact h
theorem FC_57 {r : Nat → Int32} (hw : WFc r) : FC r ≤ 57 := by
  have hn := hw.nf
  have := cnt_le (FPb r) (NF r + 1)
  unfold FC
  omega
theorem h_fitting {v : Vs} {n : Nat} {r : Nat → Int32} (h : MS v n r) (hw : WFc r) (ht : WFt r) : ∃ v', f_X8_fitting v = some (nI (FC r), v') ∧ SC [6, 7, 8, 21] v v' ∧ ∀ k, k < 57 → v'.2.1 21 k = if FK r (NT r) k then nI 1 else nI 0 := by
  have hn := hw.nf
  have h16 := ht.1.2
  have key : Ok (f_X8_fitting v) (fun q => q.1 = nI (FC r) ∧ SC [6, 7, 8, 21] v q.2 ∧ ∀ k, k < 57 → q.2.2.1 21 k = if FK r (NT r) k then nI 1 else nI 0) := by
    unfold f_X8_fitting
    refine zl2 (I := fun m x v' => ∃ k, x = nI k ∧ k ≤ 57 ∧ m = 57 - k ∧ SC [6, 7, 8, 21] v v' ∧ ∀ j, j < k → v'.2.1 21 j = if FK r 0 j then nI 1 else nI 0) ?_ FU 57 _ _ (by unfold FU; omega) ⟨0, rfl, by omega, by omega, SC.rf _ _, fun j hj => by omega⟩
    rintro m x v' self ⟨k, rfl, hle, rfl, hs, hz⟩ ih
    have hm := h.sc hs (by decide)
    unfold f_X8_fitting_L2
    rw [z_l57]
    by_cases hb : 57 ≤ k
    · rw [ift hb (by omega)]
      refine zl2 (I := fun m x v2 => ∃ t, x = nI t ∧ t ≤ NT r ∧ m = NT r - t ∧ SC [6, 7, 8, 21] v v2 ∧ ∀ j, j < 57 → v2.2.1 21 j = if FK r t j then nI 1 else nI 0) ?_ FU (NT r) _ _ (by unfold FU; omega) ⟨0, rfl, by omega, by omega, hs, fun j hj => hz j (by omega)⟩
      clear ih hz hs hm v' self
      rintro m x v' self ⟨t, rfl, hle, rfl, hs, hz⟩ ih
      have hm := h.sc hs (by decide)
      unfold f_X8_fitting_L41
      refine ok_o1e (g_tests hm ht) ?_
      by_cases hb : NT r ≤ t
      · rw [ift hb (by omega)]
        have e : t = NT r := by omega
        subst e
        have hk57 : cnt (fun k => FK r (NT r) k) 57 = FC r := cnt_FK' hw
        refine zl2 (I := fun m x y => ∃ k, x = nI (cnt (fun k => FK r (NT r) k) k) ∧ y = nI k ∧ k ≤ 57 ∧ m = 57 - k) ?_ FU 57 _ _ (by unfold FU; omega) ⟨0, rfl, rfl, by omega, by omega⟩
        rintro m x y self2 ⟨k, rfl, rfl, hk, rfl⟩ ih2
        unfold f_X8_fitting_L110
        rw [z_l57]
        by_cases hb2 : 57 ≤ k
        · rw [ift hb2 (by omega)]
          have e : k = 57 := by omega
          subst e
          rw [hk57]
          exact ok_some ⟨rfl, hs, hz⟩
        · rw [iff_ hb2 (by omega)]
          refine ok_gd (z_inb (by omega) (by omega)) ?_
          have hzk := hz k (by omega)
          have hc := cnt_le (fun k => FK r (NT r) k) k
          have ec : cnt (fun k => FK r (NT r) k) (k + 1) = cnt (fun k => FK r (NT r) k) k + (if FK r (NT r) k then 1 else 0) := rfl
          have ih' := ih2 (57 - (k + 1)) (nI (cnt (fun k => FK r (NT r) k) (k + 1))) (nI (k + 1)) (by omega) ⟨k + 1, rfl, rfl, by omega, rfl⟩
          rw [ec] at ih'
          cases hd : FK r (NT r) k
          · rw [hd, if_neg (by decide)] at hzk ih'
            simp (disch := omega) only [z_gt, z_o1, z_o2, z_o3, z_o4, z_o5, z_o6, z_o7, z_o8, z_o9, z_bn, z_jn, nI_add, z_mul, z_sub, z_div, Nat.not_lt_zero, z_cl, z_le, z_lt, z_eq, z_inb, z_nz, z_isB0, z_notJ, z_notI, z_isB1, z_m1, z_pos, z_pos', z_nlt, z_nle', z_m1le, z_m1a, z_nle, z_sI0, z_sI1, z_sI2, z_sI3, z_sJ0, z_sJ1, z_sJ2, z_sJ3, z_sF0, z_sF1, z_sF2, z_sA0, z_sA1, z_sA2, z_sA3, z_sAA, z_sIA, ↓reduceIte, Nat.reduceEqDiff, Nat.reduceLeDiff, Nat.reduceLT, z_l0, z_l1, z_l2, z_l3, z_l4, z_l5, z_l6, z_l7, z_l8, z_l9, z_l10, z_l11, z_l12, z_l13, z_l14, z_l15, z_l16, z_l17, z_l18, z_l19, z_l20, z_l21, z_l22, z_l23, z_l24, z_l25, z_l26, z_l27, z_l28, z_l32, z_l48, z_l56, z_l57, z_l59, z_l63, z_l64, z_l96, z_l97, z_l122, z_l127, z_l152, z_l158, z_l182, z_l255, z_l256, z_l310, z_l342, z_l406, z_l440, z_l729, z_l800, z_l3960, z_l14336, z_l14592, z_l100000, hzk]
            exact ih'
          · rw [hd, if_pos rfl] at hzk ih'
            simp (disch := omega) only [z_gt, z_o1, z_o2, z_o3, z_o4, z_o5, z_o6, z_o7, z_o8, z_o9, z_bn, z_jn, nI_add, z_mul, z_sub, z_div, Nat.not_lt_zero, z_cl, z_le, z_lt, z_eq, z_inb, z_nz, z_isB0, z_notJ, z_notI, z_isB1, z_m1, z_pos, z_pos', z_nlt, z_nle', z_m1le, z_m1a, z_nle, z_sI0, z_sI1, z_sI2, z_sI3, z_sJ0, z_sJ1, z_sJ2, z_sJ3, z_sF0, z_sF1, z_sF2, z_sA0, z_sA1, z_sA2, z_sA3, z_sAA, z_sIA, ↓reduceIte, Nat.reduceEqDiff, Nat.reduceLeDiff, Nat.reduceLT, z_l0, z_l1, z_l2, z_l3, z_l4, z_l5, z_l6, z_l7, z_l8, z_l9, z_l10, z_l11, z_l12, z_l13, z_l14, z_l15, z_l16, z_l17, z_l18, z_l19, z_l20, z_l21, z_l22, z_l23, z_l24, z_l25, z_l26, z_l27, z_l28, z_l32, z_l48, z_l56, z_l57, z_l59, z_l63, z_l64, z_l96, z_l97, z_l122, z_l127, z_l152, z_l158, z_l182, z_l255, z_l256, z_l310, z_l342, z_l406, z_l440, z_l729, z_l800, z_l3960, z_l14336, z_l14592, z_l100000, hzk]
            exact ih'
      · rw [iff_ hb (by omega)]
        obtain ⟨v1, e1, s1, a1⟩ := h_asksTest hm hw ht (t := t) (by omega)
        refine ok_o1e e1 ?_
        refine zl2 (I := fun m x v2 => ∃ k, x = nI k ∧ k ≤ 57 ∧ m = 57 - k ∧ SC [8, 21] v1 v2 ∧ ∀ j, j < 57 → v2.2.1 21 j = if FK r (if j < k then t + 1 else t) j then nI 1 else nI 0) ?_ FU 57 _ _ (by unfold FU; omega) ⟨0, rfl, by omega, by omega, SC.rf _ _, fun j hj => by rw [if_neg (show ¬ j < 0 by omega), s1.2 21 (by decide)]; exact hz j hj⟩
        rintro m x v2 self2 ⟨k, rfl, hle2, rfl, hs2, hz2⟩ ih2
        have hm2 := (hm.sc s1 (by decide)).sc hs2 (by decide)
        unfold f_X8_fitting_L56
        rw [z_l57]
        by_cases hb2 : 57 ≤ k
        · rw [ift hb2 (by omega), z_l1, nI_add]
          refine ih _ _ _ (by omega) ⟨t + 1, rfl, by omega, rfl, (hs.tr (s1.mono (by decide))).tr (hs2.mono (by decide)), fun j hj => ?_⟩
          rw [hz2 j hj, if_pos (show j < k by omega)]
        · rw [iff_ hb2 (by omega)]
          refine ok_gd (z_inb (by omega) (by omega)) ?_
          have hzk := hz2 k (by omega)
          rw [if_neg (show ¬ k < k by omega)] at hzk
          have fk1 : FK r (t + 1) k = (FK r t k && FT r (ixp k) t) := by
            unfold FK
            rw [FN_s, Bool.and_assoc]
          have fin : ∀ v3 : Vs, SC [8, 21] v1 v3 → v3.2.1 21 k = (if FK r (t + 1) k then nI 1 else nI 0) → (∀ j, j ≠ k → v3.2.1 21 j = v2.2.1 21 j) → Ok (self2 (nI (k + 1)) v3) (fun q => q.1 = nI (FC r) ∧ SC [6, 7, 8, 21] v q.2 ∧ ∀ k, k < 57 → q.2.2.1 21 k = if FK r (NT r) k then nI 1 else nI 0) := by
            intro v3 z1 z2 z3
            refine ih2 _ _ _ (by omega) ⟨k + 1, rfl, by omega, rfl, z1, fun j hj => ?_⟩
            by_cases hj2 : j = k
            · rw [hj2, if_pos (show k < k + 1 by omega)]; exact z2
            · rw [z3 j hj2, hz2 j hj]
              by_cases hj3 : j < k
              · rw [if_pos hj3, if_pos (show j < k + 1 by omega)]
              · rw [if_neg hj3, if_neg (show ¬ j < k + 1 by omega)]
          cases hd : FK r t k
          · rw [hd, if_neg (by decide)] at hzk
            have f := fin v2 hs2 (by rw [hzk, fk1, hd]; rfl) (fun j _ => rfl)
            simp (disch := omega) only [z_gt, z_o1, z_o2, z_o3, z_o4, z_o5, z_o6, z_o7, z_o8, z_o9, z_bn, z_jn, nI_add, z_mul, z_sub, z_div, Nat.not_lt_zero, z_cl, z_le, z_lt, z_eq, z_inb, z_nz, z_isB0, z_notJ, z_notI, z_isB1, z_m1, z_pos, z_pos', z_nlt, z_nle', z_m1le, z_m1a, z_nle, z_sI0, z_sI1, z_sI2, z_sI3, z_sJ0, z_sJ1, z_sJ2, z_sJ3, z_sF0, z_sF1, z_sF2, z_sA0, z_sA1, z_sA2, z_sA3, z_sAA, z_sIA, ↓reduceIte, Nat.reduceEqDiff, Nat.reduceLeDiff, Nat.reduceLT, z_l0, z_l1, z_l2, z_l3, z_l4, z_l5, z_l6, z_l7, z_l8, z_l9, z_l10, z_l11, z_l12, z_l13, z_l14, z_l15, z_l16, z_l17, z_l18, z_l19, z_l20, z_l21, z_l22, z_l23, z_l24, z_l25, z_l26, z_l27, z_l28, z_l32, z_l48, z_l56, z_l57, z_l59, z_l63, z_l64, z_l96, z_l97, z_l122, z_l127, z_l152, z_l158, z_l182, z_l255, z_l256, z_l310, z_l342, z_l406, z_l440, z_l729, z_l800, z_l3960, z_l14336, z_l14592, z_l100000, hzk]
            exact f
          · have hpk : ixp k ≤ NF r := by
              unfold FK at hd
              simp at hd
              unfold ixp
              split <;> omega
            obtain ⟨v3, e3, s3, b3⟩ := h_bends hm2 hw (a1.sc hs2 (by decide) (by decide)) hpk
            have e4 := h_isFit (hm2.sc s3 (by decide)) hw ht (t := t) (by omega) b3
            rw [hd, if_pos rfl] at hzk
            rw [hd, Bool.true_and] at fk1
            cases hf : FT r (ixp k) t
            · rw [hf] at e4 fk1
              rw [if_neg (by decide)] at e4
              have f := fin (sA v3 21 (upd (v3.2.1 21) k (nI 0))) ((hs2.tr (s3.mono (by decide))).sA _ (by decide)) (by rw [z_sA2, z_u1 _ _ rfl, fk1]; rfl) (fun j hj => by rw [z_sA2, z_u2 _ _ hj, s3.2 21 (by decide)])
              simp (disch := omega) only [z_gt, z_o1, z_o2, z_o3, z_o4, z_o5, z_o6, z_o7, z_o8, z_o9, z_bn, z_jn, nI_add, z_mul, z_sub, z_div, Nat.not_lt_zero, z_cl, z_le, z_lt, z_eq, z_inb, z_nz, z_isB0, z_notJ, z_notI, z_isB1, z_m1, z_pos, z_pos', z_nlt, z_nle', z_m1le, z_m1a, z_nle, z_sI0, z_sI1, z_sI2, z_sI3, z_sJ0, z_sJ1, z_sJ2, z_sJ3, z_sF0, z_sF1, z_sF2, z_sA0, z_sA1, z_sA2, z_sA3, z_sAA, z_sIA, ↓reduceIte, Nat.reduceEqDiff, Nat.reduceLeDiff, Nat.reduceLT, z_l0, z_l1, z_l2, z_l3, z_l4, z_l5, z_l6, z_l7, z_l8, z_l9, z_l10, z_l11, z_l12, z_l13, z_l14, z_l15, z_l16, z_l17, z_l18, z_l19, z_l20, z_l21, z_l22, z_l23, z_l24, z_l25, z_l26, z_l27, z_l28, z_l32, z_l48, z_l56, z_l57, z_l59, z_l63, z_l64, z_l96, z_l97, z_l122, z_l127, z_l152, z_l158, z_l182, z_l255, z_l256, z_l310, z_l342, z_l406, z_l440, z_l729, z_l800, z_l3960, z_l14336, z_l14592, z_l100000, hzk, g_at, e3, e4, nar0]
              exact f
            · rw [hf] at e4 fk1
              rw [if_pos rfl] at e4
              have f := fin (sA v3 21 (upd (v3.2.1 21) k (nI 1))) ((hs2.tr (s3.mono (by decide))).sA _ (by decide)) (by rw [z_sA2, z_u1 _ _ rfl, fk1]; rfl) (fun j hj => by rw [z_sA2, z_u2 _ _ hj, s3.2 21 (by decide)])
              simp (disch := omega) only [z_gt, z_o1, z_o2, z_o3, z_o4, z_o5, z_o6, z_o7, z_o8, z_o9, z_bn, z_jn, nI_add, z_mul, z_sub, z_div, Nat.not_lt_zero, z_cl, z_le, z_lt, z_eq, z_inb, z_nz, z_isB0, z_notJ, z_notI, z_isB1, z_m1, z_pos, z_pos', z_nlt, z_nle', z_m1le, z_m1a, z_nle, z_sI0, z_sI1, z_sI2, z_sI3, z_sJ0, z_sJ1, z_sJ2, z_sJ3, z_sF0, z_sF1, z_sF2, z_sA0, z_sA1, z_sA2, z_sA3, z_sAA, z_sIA, ↓reduceIte, Nat.reduceEqDiff, Nat.reduceLeDiff, Nat.reduceLT, z_l0, z_l1, z_l2, z_l3, z_l4, z_l5, z_l6, z_l7, z_l8, z_l9, z_l10, z_l11, z_l12, z_l13, z_l14, z_l15, z_l16, z_l17, z_l18, z_l19, z_l20, z_l21, z_l22, z_l23, z_l24, z_l25, z_l26, z_l27, z_l28, z_l32, z_l48, z_l56, z_l57, z_l59, z_l63, z_l64, z_l96, z_l97, z_l122, z_l127, z_l152, z_l158, z_l182, z_l255, z_l256, z_l310, z_l342, z_l406, z_l440, z_l729, z_l800, z_l3960, z_l14336, z_l14592, z_l100000, hzk, g_at, e3, e4, nar1]
              exact f
    · rw [iff_ hb (by omega)]
      refine ok_o1e (g_faults hm hw) ?_
      refine ok_j1 (fun q => q = if FK r 0 k then nI 1 else nI 0) ?_ ?_
      · rintro q rfl
        refine ok_gd (z_inb (by omega) (by omega)) ?_
        refine ok_bn ?_
        rw [z_cl (by omega), z_l1, nI_add, z_sIA]
        refine ih _ _ _ (by omega) ⟨k + 1, rfl, by omega, rfl, hs.sA _ (by decide), fun j hj => ?_⟩
        rw [z_sA2]
        by_cases hj2 : j = k
        · rw [z_u1 _ _ hj2, hj2]
          cases FK r 0 k
          · exact nar0
          · exact nar1
        · rw [z_u2 _ _ hj2]
          exact hz j (by omega)
      · intro k9 hk9
        by_cases c1 : k < NF r
        · have hd : FK r 0 k = true := by unfold FK; rw [FN_0]; simp [c1]
          have f := hk9 (nI 1) (by rw [hd]; rfl)
          simp (disch := omega) only [z_gt, z_o1, z_o2, z_o3, z_o4, z_o5, z_o6, z_o7, z_o8, z_o9, z_bn, z_jn, nI_add, z_mul, z_sub, z_div, Nat.not_lt_zero, z_cl, z_le, z_lt, z_eq, z_inb, z_nz, z_isB0, z_notJ, z_notI, z_isB1, z_m1, z_pos, z_pos', z_nlt, z_nle', z_m1le, z_m1a, z_nle, z_sI0, z_sI1, z_sI2, z_sI3, z_sJ0, z_sJ1, z_sJ2, z_sJ3, z_sF0, z_sF1, z_sF2, z_sA0, z_sA1, z_sA2, z_sA3, z_sAA, z_sIA, ↓reduceIte, Nat.reduceEqDiff, Nat.reduceLeDiff, Nat.reduceLT, z_l0, z_l1, z_l2, z_l3, z_l4, z_l5, z_l6, z_l7, z_l8, z_l9, z_l10, z_l11, z_l12, z_l13, z_l14, z_l15, z_l16, z_l17, z_l18, z_l19, z_l20, z_l21, z_l22, z_l23, z_l24, z_l25, z_l26, z_l27, z_l28, z_l32, z_l48, z_l56, z_l57, z_l59, z_l63, z_l64, z_l96, z_l97, z_l122, z_l127, z_l152, z_l158, z_l182, z_l255, z_l256, z_l310, z_l342, z_l406, z_l440, z_l729, z_l800, z_l3960, z_l14336, z_l14592, z_l100000, c1]
          exact f
        · by_cases c2 : k = 56
          · have hd : FK r 0 k = true := by unfold FK; rw [FN_0]; simp [c2]
            have f := hk9 (nI 1) (by rw [hd]; rfl)
            subst c2
            simp (disch := omega) only [z_gt, z_o1, z_o2, z_o3, z_o4, z_o5, z_o6, z_o7, z_o8, z_o9, z_bn, z_jn, nI_add, z_mul, z_sub, z_div, Nat.not_lt_zero, z_cl, z_le, z_lt, z_eq, z_inb, z_nz, z_isB0, z_notJ, z_notI, z_isB1, z_m1, z_pos, z_pos', z_nlt, z_nle', z_m1le, z_m1a, z_nle, z_sI0, z_sI1, z_sI2, z_sI3, z_sJ0, z_sJ1, z_sJ2, z_sJ3, z_sF0, z_sF1, z_sF2, z_sA0, z_sA1, z_sA2, z_sA3, z_sAA, z_sIA, ↓reduceIte, Nat.reduceEqDiff, Nat.reduceLeDiff, Nat.reduceLT, z_l0, z_l1, z_l2, z_l3, z_l4, z_l5, z_l6, z_l7, z_l8, z_l9, z_l10, z_l11, z_l12, z_l13, z_l14, z_l15, z_l16, z_l17, z_l18, z_l19, z_l20, z_l21, z_l22, z_l23, z_l24, z_l25, z_l26, z_l27, z_l28, z_l32, z_l48, z_l56, z_l57, z_l59, z_l63, z_l64, z_l96, z_l97, z_l122, z_l127, z_l152, z_l158, z_l182, z_l255, z_l256, z_l310, z_l342, z_l406, z_l440, z_l729, z_l800, z_l3960, z_l14336, z_l14592, z_l100000, c1]
            exact f
          · have hd : FK r 0 k = false := by unfold FK; simp [c1, c2]
            have f := hk9 (nI 0) (by rw [hd]; rfl)
            simp (disch := omega) only [z_gt, z_o1, z_o2, z_o3, z_o4, z_o5, z_o6, z_o7, z_o8, z_o9, z_bn, z_jn, nI_add, z_mul, z_sub, z_div, Nat.not_lt_zero, z_cl, z_le, z_lt, z_eq, z_inb, z_nz, z_isB0, z_notJ, z_notI, z_isB1, z_m1, z_pos, z_pos', z_nlt, z_nle', z_m1le, z_m1a, z_nle, z_sI0, z_sI1, z_sI2, z_sI3, z_sJ0, z_sJ1, z_sJ2, z_sJ3, z_sF0, z_sF1, z_sF2, z_sA0, z_sA1, z_sA2, z_sA3, z_sAA, z_sIA, ↓reduceIte, Nat.reduceEqDiff, Nat.reduceLeDiff, Nat.reduceLT, z_l0, z_l1, z_l2, z_l3, z_l4, z_l5, z_l6, z_l7, z_l8, z_l9, z_l10, z_l11, z_l12, z_l13, z_l14, z_l15, z_l16, z_l17, z_l18, z_l19, z_l20, z_l21, z_l22, z_l23, z_l24, z_l25, z_l26, z_l27, z_l28, z_l32, z_l48, z_l56, z_l57, z_l59, z_l63, z_l64, z_l96, z_l97, z_l122, z_l127, z_l152, z_l158, z_l182, z_l255, z_l256, z_l310, z_l342, z_l406, z_l440, z_l729, z_l800, z_l3960, z_l14336, z_l14592, z_l100000, c1, c2]
            exact f
  obtain ⟨⟨x, v'⟩, e, rfl, hs, hz⟩ := key
  exact ⟨v', e, hs, hz⟩
theorem fI_le {a p : Nat} (ha : a < 2147483648) (hp : p < 2147483648) : (nI a ≤ fI p) = (1 ≤ p ∧ a ≤ p - 1) := by
  unfold fI
  by_cases h : p = 0
  · rw [if_pos h, z_nle' ha]
    apply propext
    constructor
    · intro q; cases q
    · intro q; omega
  · rw [if_neg h, z_le ha (by omega)]
    apply propext
    constructor
    · intro q; omega
    · intro q; omega
/-- what the class lists: each p that fits, at its place -/
def LF (r : Nat → Int32) (v : Vs) : Prop := ∀ q, q ≤ NF r → FPb r q = true → v.2.1 7 (cnt (FPb r) q) = fI q
theorem y_listFitting {r : Nat → Int32} (hw : WFc r) (ht : WFt r) {vF vC vT vRT vG vB vRF : Vs} (hC : RC r vC) (hT : RT r vT) (hF : FI r vF vRT vG vRF) :
    ∃ vF' vRT' vG' vB', f_X7_listFitting vF vC vT 342 vRT vG vB = some (nI (FC r), vF', vRT', vG', vB') ∧ FI r vF' vRT' vG' vRF ∧ TR r vRT' vG' ∧ LF r vF' ∧ vF'.1 5 = vF.1 5 ∧ vF'.1 6 ≠ 0 ∧ vF'.2.2 = vF.2.2 ∧ ∀ j, j ≠ 7 → vF'.2.1 j = vF.2.1 j := by
  have hn := hw.nf
  obtain ⟨vF1, vRT', vG', vB', e, hF', hTR, k1, k2, k3⟩ := y_refreshTest hw ht (vB := vB) hC hT hF
  have key : Ok (f_X7_listFitting vF vC vT 342 vRT vG vB) (fun q => ∃ f, q = (nI (FC r), sA vF1 7 f, vRT', vG', vB') ∧ LF r (sA vF1 7 f)) := by
    unfold f_X7_listFitting
    rw [e, z_o4]
    refine ok_o1e (x_faultCount hC) ?_
    refine zl3 (I := fun m x y v => ∃ p f, x = nI (cnt (FPb r) p) ∧ y = fI p ∧ v = sA vF1 7 f ∧ p ≤ NF r + 1 ∧ m = NF r + 1 - p ∧ ∀ q, q < p → FPb r q = true → f (cnt (FPb r) q) = fI q) ?_ FU (NF r + 1) _ _ _ (by unfold FU; omega) ⟨0, vF1.2.1 7, rfl, rfl, (z_sAs vF1 7).symm, by omega, by omega, fun q hq => by omega⟩
    rintro m x y v self ⟨p, f, rfl, rfl, rfl, hle, rfl, hf⟩ ih
    unfold f_X7_listFitting_L19
    by_cases hb : NF r + 1 ≤ p
    · have c : nI (NF r) ≤ fI p := by rw [fI_le (by omega) (by omega)]; omega
      rw [if_pos c]
      have e : p = NF r + 1 := by omega
      subst e
      refine ok_some ⟨f, rfl, fun q hq hp => ?_⟩
      rw [z_sA2]
      exact hf q (by omega) hp
    · have c : ¬ nI (NF r) ≤ fI p := by rw [fI_le (by omega) (by omega)]; omega
      rw [if_neg c]
      refine ok_o1e (x_fits hw ht hC hT hF'.2.2.1 hTR (by omega)) ?_
      have hc := cnt_le (FPb r) p
      have ec : cnt (FPb r) (p + 1) = cnt (FPb r) p + (if FPb r p then 1 else 0) := rfl
      have ef : fI p + (1 : Int32) = fI (p + 1) := by rw [z_l1, fI_1 p (by omega), fI_s]
      rw [ef]
      cases hd : FPb r p
      · rw [hd, if_neg (by decide)] at ec
        have ih' := ih (NF r + 1 - (p + 1)) (nI (cnt (FPb r) (p + 1))) (fI (p + 1)) (sA vF1 7 f) (by omega) ⟨p + 1, f, rfl, rfl, rfl, by omega, rfl, fun q hq hp => by
          by_cases hq2 : q = p
          · rw [hq2, hd] at hp; cases hp
          · exact hf q (by omega) hp⟩
        rw [ec] at ih'
        rw [if_neg (by decide)]
        simp (disch := omega) only [z_gt, z_o1, z_o2, z_o3, z_o4, z_o5, z_o6, z_o7, z_o8, z_o9, z_bn, z_jn, nI_add, z_mul, z_sub, z_div, Nat.not_lt_zero, z_cl, z_le, z_lt, z_eq, z_inb, z_nz, z_isB0, z_notJ, z_notI, z_isB1, z_m1, z_pos, z_pos', z_nlt, z_nle', z_m1le, z_m1a, z_nle, z_sI0, z_sI1, z_sI2, z_sI3, z_sJ0, z_sJ1, z_sJ2, z_sJ3, z_sF0, z_sF1, z_sF2, z_sA0, z_sA1, z_sA2, z_sA3, z_sAA, z_sIA, ↓reduceIte, Nat.reduceEqDiff, Nat.reduceLeDiff, Nat.reduceLT, z_l0, z_l1, z_l2, z_l3, z_l4, z_l5, z_l6, z_l7, z_l8, z_l9, z_l10, z_l11, z_l12, z_l13, z_l14, z_l15, z_l16, z_l17, z_l18, z_l19, z_l20, z_l21, z_l22, z_l23, z_l24, z_l25, z_l26, z_l27, z_l28, z_l32, z_l48, z_l56, z_l57, z_l59, z_l63, z_l64, z_l96, z_l97, z_l122, z_l127, z_l152, z_l158, z_l182, z_l255, z_l256, z_l310, z_l342, z_l406, z_l440, z_l729, z_l800, z_l3960, z_l14336, z_l14592, z_l100000]
        exact ih'
      · rw [hd, if_pos rfl] at ec
        have ih' := ih (NF r + 1 - (p + 1)) (nI (cnt (FPb r) (p + 1))) (fI (p + 1)) (sA vF1 7 (upd f (cnt (FPb r) p) (fI p))) (by omega) ⟨p + 1, _, rfl, rfl, rfl, by omega, rfl, fun q hq hp => by
          by_cases hq2 : q = p
          · rw [hq2, z_u1 _ _ rfl]
          · have h3 : cnt (FPb r) q < cnt (FPb r) p := by
              have m1 : cnt (FPb r) (q + 1) = cnt (FPb r) q + 1 := by
                show cnt (FPb r) q + (if FPb r q then 1 else 0) = _
                rw [hp]
                rfl
              have m2 : ∀ d, cnt (FPb r) (q + 1) ≤ cnt (FPb r) (q + 1 + d) := fun d => by
                have := cnt_split (FPb r) (q + 1) d
                omega
              have m3 := m2 (p - (q + 1))
              rw [show q + 1 + (p - (q + 1)) = p by omega] at m3
              omega
            rw [z_u2 _ _ (by omega)]
            exact hf q (by omega) hp⟩
        rw [ec] at ih'
        rw [if_pos rfl]
        simp (disch := omega) only [z_gt, z_o1, z_o2, z_o3, z_o4, z_o5, z_o6, z_o7, z_o8, z_o9, z_bn, z_jn, nI_add, z_mul, z_sub, z_div, Nat.not_lt_zero, z_cl, z_le, z_lt, z_eq, z_inb, z_nz, z_isB0, z_notJ, z_notI, z_isB1, z_m1, z_pos, z_pos', z_nlt, z_nle', z_m1le, z_m1a, z_nle, z_sI0, z_sI1, z_sI2, z_sI3, z_sJ0, z_sJ1, z_sJ2, z_sJ3, z_sF0, z_sF1, z_sF2, z_sA0, z_sA1, z_sA2, z_sA3, z_sAA, z_sIA, ↓reduceIte, Nat.reduceEqDiff, Nat.reduceLeDiff, Nat.reduceLT, z_l0, z_l1, z_l2, z_l3, z_l4, z_l5, z_l6, z_l7, z_l8, z_l9, z_l10, z_l11, z_l12, z_l13, z_l14, z_l15, z_l16, z_l17, z_l18, z_l19, z_l20, z_l21, z_l22, z_l23, z_l24, z_l25, z_l26, z_l27, z_l28, z_l32, z_l48, z_l56, z_l57, z_l59, z_l63, z_l64, z_l96, z_l97, z_l122, z_l127, z_l152, z_l158, z_l182, z_l255, z_l256, z_l310, z_l342, z_l406, z_l440, z_l729, z_l800, z_l3960, z_l14336, z_l14592, z_l100000]
        exact ih'
  obtain ⟨q, eq, f, rfl, hL⟩ := key
  refine ⟨sA vF1 7 f, vRT', vG', vB', eq, ⟨hF'.1, hF'.2.1, hF'.2.2.1, hF'.2.2.2.1, fun j hj => ?_⟩, hTR, hL, k2, k3, ?_, fun j hj => ?_⟩
  · rw [z_sA3 _ _ _ (by decide)]
    exact hF'.2.2.2.2 j hj
  · rw [z_sA1, k1]
  · rw [z_sA3 _ _ _ hj, k1]
theorem q_suspects {r : Nat → Int32} (hw : WFc r) (ht : WFt r) {vF vC vT vRT vG vB vRF vM : Vs} {n : Nat} (hC : RC r vC) (hT : RT r vT) (hF : FI r vF vRT vG vRF) (hM : MS vM n r) :
    ∃ x vF' vRT' vG' vB' vM', f_X7_suspects vF vC vT 342 vRT vG vB = some (x, vF', vRT', vG', vB') ∧ FI r vF' vRT' vG' vRF ∧ f_X8_suspects vM = some (x, vM') ∧ QM vM vM' := by
  obtain ⟨vF', vRT', vG', vB', e, hF', -⟩ := y_listFitting hw ht (vB := vB) hC hT hF
  obtain ⟨v2, e2, s2, -⟩ := h_fitting (hM.sF 0 (nI 0) (by decide)) hw ht
  refine ⟨nI (FC r), vF', vRT', vG', vB', v2, ?_, hF', ?_, (QM.th _ _).tr (QM.sc s2 (by decide) (by decide))⟩
  · unfold f_X7_suspects
    simp (disch := omega) only [z_gt, z_o1, z_o2, z_o3, z_o4, z_o5, z_o6, z_o7, z_o8, z_o9, z_bn, z_jn, nI_add, z_mul, z_sub, z_div, Nat.not_lt_zero, z_cl, z_le, z_lt, z_eq, z_inb, z_nz, z_isB0, z_notJ, z_notI, z_isB1, z_m1, z_pos, z_pos', z_nlt, z_nle', z_m1le, z_m1a, z_nle, z_sI0, z_sI1, z_sI2, z_sI3, z_sJ0, z_sJ1, z_sJ2, z_sJ3, z_sF0, z_sF1, z_sF2, z_sA0, z_sA1, z_sA2, z_sA3, z_sAA, z_sIA, ↓reduceIte, Nat.reduceEqDiff, Nat.reduceLeDiff, Nat.reduceLT, z_l0, z_l1, z_l2, z_l3, z_l4, z_l5, z_l6, z_l7, z_l8, z_l9, z_l10, z_l11, z_l12, z_l13, z_l14, z_l15, z_l16, z_l17, z_l18, z_l19, z_l20, z_l21, z_l22, z_l23, z_l24, z_l25, z_l26, z_l27, z_l28, z_l32, z_l48, z_l56, z_l57, z_l59, z_l63, z_l64, z_l96, z_l97, z_l122, z_l127, z_l152, z_l158, z_l182, z_l255, z_l256, z_l310, z_l342, z_l406, z_l440, z_l729, z_l800, z_l3960, z_l14336, z_l14592, z_l100000, e]
  · unfold f_X8_suspects
    simp (disch := omega) only [z_gt, z_o1, z_o2, z_o3, z_o4, z_o5, z_o6, z_o7, z_o8, z_o9, z_bn, z_jn, nI_add, z_mul, z_sub, z_div, Nat.not_lt_zero, z_cl, z_le, z_lt, z_eq, z_inb, z_nz, z_isB0, z_notJ, z_notI, z_isB1, z_m1, z_pos, z_pos', z_nlt, z_nle', z_m1le, z_m1a, z_nle, z_sI0, z_sI1, z_sI2, z_sI3, z_sJ0, z_sJ1, z_sJ2, z_sJ3, z_sF0, z_sF1, z_sF2, z_sA0, z_sA1, z_sA2, z_sA3, z_sAA, z_sIA, ↓reduceIte, Nat.reduceEqDiff, Nat.reduceLeDiff, Nat.reduceLT, z_l0, z_l1, z_l2, z_l3, z_l4, z_l5, z_l6, z_l7, z_l8, z_l9, z_l10, z_l11, z_l12, z_l13, z_l14, z_l15, z_l16, z_l17, z_l18, z_l19, z_l20, z_l21, z_l22, z_l23, z_l24, z_l25, z_l26, z_l27, z_l28, z_l32, z_l48, z_l56, z_l57, z_l59, z_l63, z_l64, z_l96, z_l97, z_l122, z_l127, z_l152, z_l158, z_l182, z_l255, z_l256, z_l310, z_l342, z_l406, z_l440, z_l729, z_l800, z_l3960, z_l14336, z_l14592, z_l100000, e2]
