/-! the reference: what changes; finders; all full tests -/
def SC (l : List Nat) (v v' : Vs) : Prop := v'.1 = v.1 ∧ ∀ k, k ∉ l → v'.2.1 k = v.2.1 k
theorem SC.rf (l : List Nat) (v : Vs) : SC l v v := ⟨rfl, fun _ _ => rfl⟩
theorem SC.tr {l : List Nat} {a b c : Vs} (h : SC l a b) (h2 : SC l b c) : SC l a c := ⟨h2.1.trans h.1, fun k hk => (h2.2 k hk).trans (h.2 k hk)⟩
theorem SC.mono {l l' : List Nat} {a b : Vs} (h : SC l a b) (hs : ∀ k, k ∈ l → k ∈ l') : SC l' a b := ⟨h.1, fun k hk => h.2 k (fun q => hk (hs k q))⟩
theorem SC.sA {l : List Nat} {a b : Vs} (h : SC l a b) {k : Nat} (f : Nat → Int32) (hk : k ∈ l) : SC l a (sA b k f) := ⟨h.1, fun j hj => by
  have : j ≠ k := fun e => hj (e ▸ hk)
  rw [z_sA3 b k f this]
  exact h.2 j hj⟩
theorem MS.sc {l : List Nat} {v v' : Vs} {n : Nat} {r : Nat → Int32} (h : MS v n r) (hs : SC l v v') (h1 : 1 ∉ l) : MS v' n r := by
  refine ⟨by rw [hs.1]; exact h.1, h.2.1, fun k hk => ?_⟩
  rw [hs.2 1 h1]
  exact h.2.2 k hk
/-- asked, clean are those of the question ask -/
def AS (v : Vs) (r : Nat → Int32) (ask : Nat → Nat) : Prop := (∀ i, i < NI r → v.2.1 6 i = nI (ask i) ∧ ask i ≤ 2) ∧ ∀ w, w < NW r → v.2.1 7 w = nI (good r ask w)
theorem AS.sc {l : List Nat} {v v' : Vs} {r : Nat → Int32} {ask : Nat → Nat} (h : AS v r ask) (hs : SC l v v') (h6 : 6 ∉ l) (h7 : 7 ∉ l) : AS v' r ask := by
  refine ⟨fun i hi => ?_, fun w hw => ?_⟩
  · rw [hs.2 6 h6]; exact h.1 i hi
  · rw [hs.2 7 h7]; exact h.2 w hw
theorem h_asksTest {v : Vs} {n : Nat} {r : Nat → Int32} (h : MS v n r) (hw : WFc r) (ht : WFt r) {t : Nat} (h1 : t < NT r) : ∃ v', f_X8_asksTest v (nI t) = some v' ∧ SC [6, 7] v v' ∧ AS v' r (tv r t) := by
  obtain ⟨f, g, e, hf, hg⟩ := g_asksTest h hw ht h1
  refine ⟨_, e, ((SC.rf _ v).sA f (by decide)).sA g (by decide), fun i hi => ?_, fun w hw => ?_⟩
  · rw [z_sA3 _ _ _ (by decide), z_sA2]; exact hf i hi
  · rw [z_sA2]; exact hg w hw
theorem h_asksFull {v : Vs} {n : Nat} {r : Nat → Int32} (h : MS v n r) (hw : WFc r) {N : Nat} (h1 : N < 256) : ∃ v', f_X8_asksFull v (nI N) = some v' ∧ SC [6, 7] v v' ∧ AS v' r (fq N) := by
  obtain ⟨f, g, e, hf, hg⟩ := g_asksFull h hw h1
  refine ⟨_, e, ((SC.rf _ v).sA f (by decide)).sA g (by decide), fun i hi => ?_, fun w hw => ?_⟩
  · rw [z_sA3 _ _ _ (by decide), z_sA2]; exact hf i hi
  · rw [z_sA2]; exact hg w hw
theorem h_bends {v : Vs} {n : Nat} {r : Nat → Int32} (h : MS v n r) (hw : WFc r) {ask : Nat → Nat} (ha : AS v r ask) {p : Nat} (hp : p ≤ NF r) : ∃ v', f_X8_bends v (fI p) = some v' ∧ SC [8] v v' ∧ ∀ w, w < NW r → v'.2.1 8 w = nI (bad r ask p w) := by
  obtain ⟨f, e, hf⟩ := g_bends h hw ha.1 ha.2 hp
  refine ⟨_, e, (SC.rf _ v).sA f (by decide), fun w hw => ?_⟩
  rw [z_sA2]
  exact hf w hw
def FNo (r : Nat → Int32) (ask : Nat → Nat) (f : Nat) : Nat := foundN (good r ask) (bad r ask (f + 1)) r (NO r)
theorem h_found {v : Vs} {n : Nat} {r : Nat → Int32} (h : MS v n r) (hw : WFc r) {ask : Nat → Nat} (ha : AS v r ask) {f : Nat} (hp : f < NF r) : ∃ v', f_X8_found v (nI f) = some (nI (FNo r ask f), v') ∧ SC [8] v v' := by
  obtain ⟨g, e⟩ := g_found h hw ha.1 ha.2 (p := f + 1) (by omega)
  exact ⟨_, e, (SC.rf _ v).sA g (by decide)⟩
/-- test t finds fault f -/
def FD (r : Nat → Int32) (t f : Nat) : Bool := decide (FNo r (tv r t) f = 2)
theorem FNo_2 (r : Nat → Int32) (ask : Nat → Nat) (f : Nat) : FNo r ask f ≤ 2 := foundN_2 _ _ _ _
theorem h_worthOf {v : Vs} {n : Nat} {r : Nat → Int32} (h : MS v n r) (hw : WFc r) (ht : WFt r) {t : Nat} (h1 : t < NT r) : ∃ v', f_X8_worthOf v (nI t) = some (nI (cnt (FD r t) (NF r)), v') ∧ SC [6, 7, 8] v v' := by
  have hn := hw.nf
  obtain ⟨v1, e1, s1, a1⟩ := h_asksTest h hw ht h1
  have key : Ok (f_X8_worthOf v (nI t)) (fun q => q.1 = nI (cnt (FD r t) (NF r)) ∧ SC [6, 7, 8] v q.2) := by
    unfold f_X8_worthOf
    refine ok_o1e e1 ?_
    refine zl3 (I := fun m x y v' => ∃ f, x = nI (cnt (FD r t) f) ∧ y = nI f ∧ f ≤ NF r ∧ m = NF r - f ∧ SC [8] v1 v') ?_ FU (NF r) _ _ _ (by unfold FU; omega) ⟨0, rfl, rfl, by omega, by omega, SC.rf _ _⟩
    rintro m x y v' self ⟨f, rfl, rfl, hle, rfl, hs⟩ ih
    have hm := (h.sc s1 (by decide)).sc hs (by decide)
    unfold f_X8_worthOf_L9
    refine ok_o1e (g_faults hm hw) ?_
    by_cases hb : NF r ≤ f
    · rw [ift hb (by omega)]
      have e : f = NF r := by omega
      rw [e]
      exact ok_some ⟨rfl, (s1.mono (by decide)).tr (hs.mono (by decide))⟩
    · rw [iff_ hb (by omega)]
      obtain ⟨v2, e2, s2⟩ := h_found hm hw (a1.sc hs (by decide) (by decide)) (f := f) (by omega)
      refine ok_o2e e2 ?_
      have h2 := FNo_2 r (tv r t) f
      have hc := cnt_le (FD r t) f
      have ih' := ih (NF r - (f + 1)) (nI (cnt (FD r t) (f + 1))) (nI (f + 1)) v2 (by omega) ⟨f + 1, rfl, rfl, by omega, rfl, hs.tr s2⟩
      have ec : cnt (FD r t) (f + 1) = cnt (FD r t) f + (if FD r t f then 1 else 0) := rfl
      by_cases hq : FNo r (tv r t) f = 2
      · have hd : FD r t f = true := by simp [FD, hq]
        rw [ec, hd, if_pos rfl] at ih'
        simp (disch := omega) only [z_gt, z_o1, z_o2, z_o3, z_o4, z_o5, z_o6, z_o7, z_o8, z_o9, z_bn, z_jn, nI_add, z_mul, z_sub, z_div, Nat.not_lt_zero, z_cl, z_le, z_lt, z_eq, z_inb, z_nz, z_isB0, z_notJ, z_notI, z_isB1, z_m1, z_pos, z_pos', z_nlt, z_nle', z_m1le, z_m1a, z_nle, z_sI0, z_sI1, z_sI2, z_sI3, z_sJ0, z_sJ1, z_sJ2, z_sJ3, z_sF0, z_sF1, z_sF2, z_sA0, z_sA1, z_sA2, z_sA3, z_sAA, z_sIA, ↓reduceIte, Nat.reduceEqDiff, Nat.reduceLeDiff, Nat.reduceLT, z_l0, z_l1, z_l2, z_l3, z_l4, z_l5, z_l6, z_l7, z_l8, z_l9, z_l10, z_l11, z_l12, z_l13, z_l14, z_l15, z_l16, z_l17, z_l18, z_l19, z_l20, z_l21, z_l22, z_l23, z_l24, z_l25, z_l26, z_l27, z_l28, z_l32, z_l48, z_l56, z_l57, z_l59, z_l63, z_l64, z_l96, z_l97, z_l122, z_l127, z_l152, z_l158, z_l182, z_l255, z_l256, z_l310, z_l342, z_l406, z_l440, z_l729, z_l800, z_l3960, z_l14336, z_l14592, z_l100000, hq]
        exact ih'
      · have hd : FD r t f = false := by simp [FD, hq]
        rw [ec, hd, if_neg (by decide)] at ih'
        simp (disch := omega) only [z_gt, z_o1, z_o2, z_o3, z_o4, z_o5, z_o6, z_o7, z_o8, z_o9, z_bn, z_jn, nI_add, z_mul, z_sub, z_div, Nat.not_lt_zero, z_cl, z_le, z_lt, z_eq, z_inb, z_nz, z_isB0, z_notJ, z_notI, z_isB1, z_m1, z_pos, z_pos', z_nlt, z_nle', z_m1le, z_m1a, z_nle, z_sI0, z_sI1, z_sI2, z_sI3, z_sJ0, z_sJ1, z_sJ2, z_sJ3, z_sF0, z_sF1, z_sF2, z_sA0, z_sA1, z_sA2, z_sA3, z_sAA, z_sIA, ↓reduceIte, Nat.reduceEqDiff, Nat.reduceLeDiff, Nat.reduceLT, z_l0, z_l1, z_l2, z_l3, z_l4, z_l5, z_l6, z_l7, z_l8, z_l9, z_l10, z_l11, z_l12, z_l13, z_l14, z_l15, z_l16, z_l17, z_l18, z_l19, z_l20, z_l21, z_l22, z_l23, z_l24, z_l25, z_l26, z_l27, z_l28, z_l32, z_l48, z_l56, z_l57, z_l59, z_l63, z_l64, z_l96, z_l97, z_l122, z_l127, z_l152, z_l158, z_l182, z_l255, z_l256, z_l310, z_l342, z_l406, z_l440, z_l729, z_l800, z_l3960, z_l14336, z_l14592, z_l100000, hq]
        exact ih'
  obtain ⟨⟨x, v'⟩, e, rfl, hs⟩ := key
  exact ⟨v', e, hs⟩
/-- the tests below n that find fault f, as a set -/
def fbN (r : Nat → Int32) (f : Nat) : Nat → Nat
  | 0 => 0
  | n + 1 => fbN r f n + (if FD r n f then 2 ^ n else 0)
theorem fbN_lt (r : Nat → Int32) (f : Nat) : ∀ n, fbN r f n < 2 ^ n
  | 0 => by simp [fbN]
  | n + 1 => by
    have h := fbN_lt r f n
    show fbN r f n + _ < _
    rw [Nat.pow_succ]
    split <;> omega
theorem g_shl : ∀ t, t < 31 → ((nI 1 : Int32) <<< (nI t &&& 31)) = nI (2 ^ t) := by decide +kernel
theorem g_or2 {a t : Nat} (h : a < 2 ^ t) : nI a ||| nI (2 ^ t) = nI (a + 2 ^ t) := by
  have e : nI a ||| nI (2 ^ t) = nI (a ||| 2 ^ t) := by
    apply Int32.toBitVec_inj.1
    show BitVec.ofNat 32 a ||| BitVec.ofNat 32 (2 ^ t) = BitVec.ofNat 32 (a ||| 2 ^ t)
    apply BitVec.eq_of_getLsbD_eq
    intro i hi
    simp [hi]
  rw [e, Nat.or_comm]
  have := Nat.two_pow_add_eq_or_of_lt h 1
  rw [Nat.mul_one] at this
  rw [← this, Nat.add_comm]
theorem g_or0 (a : Nat) : nI a ||| nI 0 = nI a := by
  apply bI_ext
  intro k _
  rw [bI_or, bI_0, Bool.or_false]
theorem h_finders {v : Vs} {n : Nat} {r : Nat → Int32} (h : MS v n r) (hw : WFc r) (ht : WFt r) : ∃ v', f_X8_finders v = some v' ∧ SC [6, 7, 8, 9] v v' ∧ ∀ f, f < NF r → v'.2.1 9 f = nI (fbN r f (NT r)) := by
  have hn := hw.nf
  have h16 := ht.1.2
  show Ok (f_X8_finders v) (fun v' => SC [6, 7, 8, 9] v v' ∧ ∀ f, f < NF r → v'.2.1 9 f = nI (fbN r f (NT r)))
  unfold f_X8_finders
  refine zl2 (I := fun m x v' => ∃ f, x = nI f ∧ f ≤ NF r ∧ m = NF r - f ∧ SC [6, 7, 8, 9] v v' ∧ ∀ j, j < f → v'.2.1 9 j = nI 0) ?_ FU (NF r) _ _ (by unfold FU; omega) ⟨0, rfl, by omega, by omega, SC.rf _ _, fun j hj => by omega⟩
  rintro m x v' self ⟨f, rfl, hle, rfl, hs, hz⟩ ih
  have hm := h.sc hs (by decide)
  unfold f_X8_finders_L2
  refine ok_o1e (g_faults hm hw) ?_
  by_cases hb : NF r ≤ f
  · rw [ift hb (by omega)]
    refine zl2 (I := fun m x v2 => ∃ t, x = nI t ∧ t ≤ NT r ∧ m = NT r - t ∧ SC [6, 7, 8, 9] v v2 ∧ ∀ j, j < NF r → v2.2.1 9 j = nI (fbN r j t)) ?_ FU (NT r) _ _ (by unfold FU; omega) ⟨0, rfl, by omega, by omega, hs, fun j hj => hz j (by omega)⟩
    clear ih hz hs hm v' self
    rintro m x v' self ⟨t, rfl, hle, rfl, hs, hz⟩ ih
    have hm := h.sc hs (by decide)
    unfold f_X8_finders_L25
    refine ok_o1e (g_tests hm ht) ?_
    by_cases hb : NT r ≤ t
    · rw [ift hb (by omega)]
      have e : t = NT r := by omega
      subst e
      exact ok_some ⟨hs, hz⟩
    · rw [iff_ hb (by omega)]
      obtain ⟨v1, e1, s1, a1⟩ := h_asksTest hm hw ht (t := t) (by omega)
      refine ok_o1e e1 ?_
      refine zl2 (I := fun m x v2 => ∃ f, x = nI f ∧ f ≤ NF r ∧ m = NF r - f ∧ SC [8, 9] v1 v2 ∧ ∀ j, j < NF r → v2.2.1 9 j = nI (if j < f then fbN r j (t + 1) else fbN r j t)) ?_ FU (NF r) _ _ (by unfold FU; omega) ⟨0, rfl, by omega, by omega, SC.rf _ _, fun j hj => by rw [if_neg (by omega), s1.2 9 (by decide)]; exact hz j hj⟩
      rintro m x v2 self2 ⟨f, rfl, hle2, rfl, hs2, hz2⟩ ih2
      have hm2 := (hm.sc s1 (by decide)).sc hs2 (by decide)
      unfold f_X8_finders_L40
      refine ok_o1e (g_faults hm2 hw) ?_
      by_cases hb2 : NF r ≤ f
      · rw [ift hb2 (by omega), z_l1, nI_add]
        refine ih _ _ _ (by omega) ⟨t + 1, rfl, by omega, rfl, (hs.tr (s1.mono (by decide))).tr (hs2.mono (by decide)), fun j hj => ?_⟩
        rw [hz2 j hj, if_pos (by omega)]
      · rw [iff_ hb2 (by omega)]
        refine ok_gd (z_inb (by omega) (by omega)) ?_
        obtain ⟨v3, e3, s3⟩ := h_found hm2 hw (a1.sc hs2 (by decide) (by decide)) (f := f) (by omega)
        refine ok_o2e e3 ?_
        have hold := hz2 f (by omega)
        rw [if_neg (by omega)] at hold
        refine ok_j1 (fun q => nI (fbN r f t) ||| q = nI (fbN r f (t + 1))) ?_ ?_
        · intro q hq
          refine ok_gd (z_inb (by omega) (by omega)) ?_
          refine ok_bn ?_
          rw [z_cl (by omega), hold, hq, z_l1, nI_add, z_sIA]
          refine ih2 _ _ _ (by omega) ⟨f + 1, rfl, by omega, rfl, (hs2.tr (s3.mono (by decide))).sA _ (by decide), fun j hj => ?_⟩
          rw [z_sA2]
          by_cases hj2 : j = f
          · rw [z_u1 _ _ hj2, hj2, if_pos (by omega)]
          · rw [z_u2 _ _ hj2, s3.2 9 (by decide), hz2 j hj]
            by_cases hj3 : j < f
            · rw [if_pos hj3, if_pos (by omega)]
            · rw [if_neg hj3, if_neg (by omega)]
        · intro k hk
          have h2 := FNo_2 r (tv r t) f
          have hlt := fbN_lt r f t
          have ec : fbN r f (t + 1) = fbN r f t + (if FD r t f then 2 ^ t else 0) := rfl
          by_cases hq : FNo r (tv r t) f = 2
          · rw [hq]
            have hd : FD r t f = true := by simp [FD, hq]
            refine hk _ ?_
            rw [z_l1, g_shl t (by omega), g_or2 hlt, ec, hd, if_pos rfl]
          · rw [z_l2, ief hq (by omega) (by omega)]
            have hd : FD r t f = false := by simp [FD, hq]
            refine hk _ ?_
            rw [z_l0, g_or0, ec, hd, if_neg (by decide)]
            rfl
  · rw [iff_ hb (by omega)]
    refine ok_gd (z_inb (by omega) (by omega)) ?_
    refine ok_bn ?_
    rw [z_cl (by omega), z_l1, nI_add, z_sIA]
    refine ih _ _ _ (by omega) ⟨f + 1, rfl, by omega, rfl, hs.sA _ (by decide), fun j hj => ?_⟩
    rw [z_sA2]
    by_cases hj2 : j = f
    · rw [z_u1 _ _ hj2]
      rfl
    · rw [z_u2 _ _ hj2]
      exact hz j (by omega)
theorem h_foundMany {v : Vs} {n : Nat} {r : Nat → Int32} (h : MS v n r) (hw : WFc r) (ht : WFt r) : ∃ v', f_X8_foundMany v = some (nI (cnt (fun f => decide (fbN r f (NT r) ≠ 0)) (NF r)), v') ∧ SC [6, 7, 8, 9] v v' := by
  have hn := hw.nf
  have h16 := ht.1.2
  obtain ⟨v1, e1, s1, a1⟩ := h_finders h hw ht
  refine ⟨v1, ok_get ?_, s1⟩
  have hm := h.sc s1 (by decide)
  unfold f_X8_foundMany
  refine ok_o1e e1 ?_
  refine zl2 (I := fun m x y => ∃ f, x = nI (cnt (fun f => decide (fbN r f (NT r) ≠ 0)) f) ∧ y = nI f ∧ f ≤ NF r ∧ m = NF r - f) ?_ FU (NF r) _ _ (by unfold FU; omega) ⟨0, rfl, rfl, by omega, by omega⟩
  rintro m x y self ⟨f, rfl, rfl, hle, rfl⟩ ih
  unfold f_X8_foundMany_L8
  refine ok_o1e (g_faults hm hw) ?_
  by_cases hb : NF r ≤ f
  · rw [ift hb (by omega)]
    have e : f = NF r := by omega
    rw [e]
    exact ok_some rfl
  · rw [iff_ hb (by omega)]
    refine ok_gd (z_inb (by omega) (by omega)) ?_
    rw [z_cl (by omega), a1 f (by omega)]
    have hlt : fbN r f (NT r) < 65536 := Nat.lt_of_lt_of_le (fbN_lt r f (NT r)) (show 2 ^ NT r ≤ 2 ^ 16 from Nat.pow_le_pow_right (by omega) h16)
    have ih' := ih (NF r - (f + 1)) (nI (cnt (fun f => decide (fbN r f (NT r) ≠ 0)) (f + 1))) (nI (f + 1)) (by omega) ⟨f + 1, rfl, rfl, by omega, rfl⟩
    have ec : cnt (fun f => decide (fbN r f (NT r) ≠ 0)) (f + 1) = cnt (fun f => decide (fbN r f (NT r) ≠ 0)) f + (if decide (fbN r f (NT r) ≠ 0) then 1 else 0) := rfl
    rw [ec] at ih'
    by_cases hq : fbN r f (NT r) = 0
    · rw [hq] at ih' ⊢
      simp (disch := omega) only [z_gt, z_o1, z_o2, z_o3, z_o4, z_o5, z_o6, z_o7, z_o8, z_o9, z_bn, z_jn, nI_add, z_mul, z_sub, z_div, Nat.not_lt_zero, z_cl, z_le, z_lt, z_eq, z_inb, z_nz, z_isB0, z_notJ, z_notI, z_isB1, z_m1, z_pos, z_pos', z_nlt, z_nle', z_m1le, z_m1a, z_nle, z_sI0, z_sI1, z_sI2, z_sI3, z_sJ0, z_sJ1, z_sJ2, z_sJ3, z_sF0, z_sF1, z_sF2, z_sA0, z_sA1, z_sA2, z_sA3, z_sAA, z_sIA, ↓reduceIte, Nat.reduceEqDiff, Nat.reduceLeDiff, Nat.reduceLT, z_l0, z_l1, z_l2, z_l3, z_l4, z_l5, z_l6, z_l7, z_l8, z_l9, z_l10, z_l11, z_l12, z_l13, z_l14, z_l15, z_l16, z_l17, z_l18, z_l19, z_l20, z_l21, z_l22, z_l23, z_l24, z_l25, z_l26, z_l27, z_l28, z_l32, z_l48, z_l56, z_l57, z_l59, z_l63, z_l64, z_l96, z_l97, z_l122, z_l127, z_l152, z_l158, z_l182, z_l255, z_l256, z_l310, z_l342, z_l406, z_l440, z_l729, z_l800, z_l3960, z_l14336, z_l14592, z_l100000]
      exact ih'
    · have hd : decide (fbN r f (NT r) ≠ 0) = true := by simp [hq]
      rw [hd, if_pos rfl] at ih'
      simp (disch := omega) only [z_gt, z_o1, z_o2, z_o3, z_o4, z_o5, z_o6, z_o7, z_o8, z_o9, z_bn, z_jn, nI_add, z_mul, z_sub, z_div, Nat.not_lt_zero, z_cl, z_le, z_lt, z_eq, z_inb, z_nz, z_isB0, z_notJ, z_notI, z_isB1, z_m1, z_pos, z_pos', z_nlt, z_nle', z_m1le, z_m1a, z_nle, z_sI0, z_sI1, z_sI2, z_sI3, z_sJ0, z_sJ1, z_sJ2, z_sJ3, z_sF0, z_sF1, z_sF2, z_sA0, z_sA1, z_sA2, z_sA3, z_sAA, z_sIA, ↓reduceIte, Nat.reduceEqDiff, Nat.reduceLeDiff, Nat.reduceLT, z_l0, z_l1, z_l2, z_l3, z_l4, z_l5, z_l6, z_l7, z_l8, z_l9, z_l10, z_l11, z_l12, z_l13, z_l14, z_l15, z_l16, z_l17, z_l18, z_l19, z_l20, z_l21, z_l22, z_l23, z_l24, z_l25, z_l26, z_l27, z_l28, z_l32, z_l48, z_l56, z_l57, z_l59, z_l63, z_l64, z_l96, z_l97, z_l122, z_l127, z_l152, z_l158, z_l182, z_l255, z_l256, z_l310, z_l342, z_l406, z_l440, z_l729, z_l800, z_l3960, z_l14336, z_l14592, z_l100000, hq]
      exact ih'
