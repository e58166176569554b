/-! the tests of the script -/
theorem fq_hi {a d i j : Nat} (ha : a < 2 ^ i) (hd : d ≤ 1) : fq (a + 2 ^ i * d) j = if j < i then fq a j else if j = i then d else 0 := by
  have h := Nat.testBit_two_pow_mul_add d ha j
  rw [Nat.add_comm] at h
  rw [fq_bit, fq_bit, fq_bit] at h
  have f1 := fq_1 (a + 2 ^ i * d) j
  have f2 := fq_1 a j
  by_cases c : j < i
  · rw [if_pos c] at h ⊢
    rw [decide_eq_decide] at h
    omega
  · rw [if_neg c] at h ⊢
    rw [decide_eq_decide] at h
    by_cases e : j = i
    · rw [if_pos e]
      have : fq d (j - i) = d := by
        rw [e, Nat.sub_self]
        unfold fq
        omega
      rw [this] at h
      omega
    · rw [if_neg e]
      have : fq d (j - i) = 0 := by
        unfold fq
        have : d / 2 ^ (j - i) = 0 := Nat.div_eq_of_lt (by
          have : 2 ^ 1 ≤ 2 ^ (j - i) := Nat.pow_le_pow_right (by omega) (by omega)
          omega)
        rw [this]
      rw [this] at h
      omega
theorem nI_and2 (a b : Nat) : nI a &&& nI b = nI (a &&& b) := by
  apply Int32.toBitVec_inj.1
  show BitVec.ofNat 32 a &&& BitVec.ofNat 32 b = BitVec.ofNat 32 (a &&& b)
  apply BitVec.eq_of_getLsbD_eq
  intro i hi
  simp [hi]
def bN (d : Nat → Nat) : Nat → Nat
  | 0 => 0
  | n + 1 => bN d n + 2 ^ n * d n
theorem bN_lt {d : Nat → Nat} (hd : ∀ j, d j ≤ 1) : ∀ n, bN d n < 2 ^ n
  | 0 => by simp [bN]
  | n + 1 => by
    have h := bN_lt hd n
    have h1 := hd n
    have e : bN d (n + 1) = bN d n + 2 ^ n * d n := rfl
    rw [e, Nat.pow_succ]
    have : d n = 0 ∨ d n = 1 := by omega
    rcases this with q | q <;> rw [q] <;> omega
theorem bN_fq {d : Nat → Nat} (hd : ∀ j, d j ≤ 1) : ∀ n j, fq (bN d n) j = if j < n then d j else 0
  | 0, j => by
    unfold fq bN
    simp
  | n + 1, j => by
    show fq (bN d n + 2 ^ n * d n) j = _
    rw [fq_hi (bN_lt hd n) (hd n), bN_fq hd n j]
    by_cases c : j < n
    · rw [if_pos c, if_pos c, if_pos (by omega)]
    · rw [if_neg c]
      by_cases e : j = n
      · rw [if_pos e, if_pos (by omega), e]
      · rw [if_neg e, if_neg (by omega)]
theorem bN_and {d c : Nat → Nat} (hd : ∀ j, d j ≤ 1) (hc : ∀ j, c j ≤ 1) (h : ∀ j, ¬ (d j = 1 ∧ c j = 1)) (n : Nat) : bN d n &&& bN c n = 0 := by
  refine Nat.eq_of_testBit_eq (fun j => ?_)
  rw [Nat.testBit_and, fq_bit, fq_bit, bN_fq hd, bN_fq hc, Nat.zero_testBit]
  have := h j
  by_cases q : j < n
  · rw [if_pos q, if_pos q]
    by_cases a : d j = 1
    · have b : ¬ c j = 1 := fun z => this ⟨a, z⟩
      simp [a, b]
    · simp [a]
  · rw [if_neg q, if_neg q]
    simp
theorem or_d {a i d : Nat} (ha : a < 2 ^ i) (hd : d ≤ 1) : nI a ||| nI (2 ^ i * d) = nI (a + 2 ^ i * d) := by
  have : d = 0 ∨ d = 1 := by omega
  rcases this with rfl | rfl
  · rw [Nat.mul_zero, Nat.add_zero]
    show nI a ||| 0 = nI a
    exact Int32.or_zero
  · rw [Nat.mul_one]
    exact g_or2 ha
/-- the row with one more test -/
def adQ (r : Nat → Int32) (a b : Nat) : Nat → Int32 := fun k => if k = 4 then nI (NT r + 1) else if 182 + 8 * NT r ≤ k ∧ k < 182 + 8 * NT r + NI r then nI (if fq b (k - (182 + 8 * NT r)) = 1 then 2 else fq a (k - (182 + 8 * NT r))) else if 310 + 6 * NT r ≤ k ∧ k < 310 + 6 * NT r + 6 then nI 2 else r k
theorem adQ_is {r : Nat → Int32} (h3 : NT r ≤ 3) (hI : NI r ≤ 8) (a b : Nat) : ADD r (adQ r a b) a b := by
  refine ⟨fun k hk h4 ho => ?_, by unfold adQ; rw [if_pos rfl], fun i hi => ?_, fun o ho => ?_⟩
  · unfold adQ
    rw [if_neg h4]
    by_cases c1 : 182 + 8 * NT r ≤ k ∧ k < 182 + 8 * NT r + NI r
    · exact absurd (by omega) (ho.1 (k - (182 + 8 * NT r)) (by omega))
    · rw [if_neg c1]
      by_cases c2 : 310 + 6 * NT r ≤ k ∧ k < 310 + 6 * NT r + 6
      · exact absurd (by omega) (ho.2 (k - (310 + 6 * NT r)) (by omega))
      · rw [if_neg c2]
  · unfold adQ
    rw [if_neg (by omega), if_pos (by omega), show 182 + 8 * NT r + i - (182 + 8 * NT r) = i by omega]
  · unfold adQ
    rw [if_neg (by omega), if_neg (by omega), if_pos (by omega)]
theorem u_addTest {r : Nat → Int32} (hw : WFc r) (ht : WFt r) {vF vC vT vRT vG vRF : Vs} {vH : Hv} (hC : RC r vC) (hT : RT r vT) (hF : FI r vF vRT vG vRF) (hH : HQ vH) (h3 : NT r ≤ 3) {a b : Nat} (ha : a < 2 ^ NI r) (hb : b < 2 ^ NI r) (hab : a &&& b = 0) :
    ∃ s vF' vT' vH', f_X7_addTest vF vC vT vH (nI a) (nI b) = some (0, nI (NT r), vF', vT', vH') ∧ (∀ k, k < 182 → k ≠ 4 → s k = r k) ∧ NT s = NT r + 1 ∧ WFc s ∧ WFt s ∧ RC s vC ∧ RT s vT' ∧ FI s vF' vRT vG vRF ∧ HQ vH' ∧ ∀ i, i < NI r → tv s (NT r) i = if fq b i = 1 then 2 else fq a i := by
  have hn := hw.nf
  obtain ⟨ws, ts, hlow, eNT, vT', e4, hT'⟩ := add_ok hw ht (by omega) hab (adQ_is h3 hn.2.2.1 a b) hT
  obtain ⟨h', eh, hh'⟩ := HQ.push ⟨hw, ht, hC, hT⟩ hH
  have eTx : vT'.1 0 = nI (NT (adQ r a b)) := hT'.1
  refine ⟨adQ r a b, sF vF 6 (nI 0), vT', h', ?_, hlow, eNT, ws, ts, hC.of hw hlow, hT', FI.tests hw hlow hF (z_sF1 _ _ _) (z_sF2 _ _ _ (by decide)) rfl, hh', fun i hi => ?_⟩
  · unfold f_X7_addTest
    rw [areI_y hw hC ha, z_o1, z_jn, if_neg (show ¬ nI 1 = (0 : Int32) by decide), areI_y hw hC hb, z_o1, if_neg (show ¬ nI 1 = (0 : Int32) by decide), nI_and2, hab, if_pos (show nI 0 = (0 : Int32) from rfl), hT.1, z_l16, ilt (by omega) (by omega), eh, z_o1, e4, z_o1, eTx, eNT, z_l1, z_sub (by omega), Nat.add_sub_cancel]
    rfl
  · have hA := (adQ_is h3 hn.2.2.1 a b).2.2.1 i hi
    have f1 := fq_1 a i
    show nn (adQ r a b (182 + 8 * NT r + i)) = _
    rw [hA, nn_nI (by split <;> omega)]
def pv (L : Nat) (X : Nat → Int32) (t i : Nat) : Nat := bd (cX L X (9 + t) >>> (nI (3 * i) &&& 31)) 3
theorem pv_2 (L : Nat) (X : Nat → Int32) (t i : Nat) : pv L X t i ≤ 2 := by
  have := bd_lt (cX L X (9 + t) >>> (nI (3 * i) &&& 31)) (n := 3) (by omega)
  unfold pv
  omega
def d1 (L : Nat) (X : Nat → Int32) (t i : Nat) : Nat := if pv L X t i = 1 then 1 else 0
def d2 (L : Nat) (X : Nat → Int32) (t i : Nat) : Nat := if pv L X t i = 2 then 1 else 0
theorem d12 (L : Nat) (X : Nat → Int32) (t : Nat) : (∀ i, d1 L X t i ≤ 1) ∧ (∀ i, d2 L X t i ≤ 1) ∧ ∀ i, ¬ (d1 L X t i = 1 ∧ d2 L X t i = 1) := by
  refine ⟨fun i => ?_, fun i => ?_, fun i => ?_⟩
  · unfold d1; split <;> omega
  · unfold d2; split <;> omega
  · unfold d1 d2; split <;> split <;> omega
set_option maxRecDepth 100000 in
set_option maxHeartbeats 1000000 in
theorem s_478 {L : Nat} {X : Nat → Int32} (hL : L ≤ 260) {r5 : Int32} (h5 : (2 : Int32) + r5 = nI (pI L X)) {r : Nat → Int32} (hlo : ∀ k, k < 182 → k ≠ 4 → r k = pQ L X k) {t : Nat} (ht3 : t < 3) (hNT : NT r = t) (hw : WFc r) (ht : WFt r) {vF vC vT vRT vG vB vRF vM vK vP vQ : Vs} {vH : Hv} (hC : RC r vC) (hT : RT r vT) (hF : FI r vF vRT vG vRF) (hH : HQ vH) (hm : RM r vM vK vP vQ) {kc ks : Nat} (hkc : kc ≤ 10000) (hks : ks ≤ 200000) {self183 : Int32 → Vs → Vs → Vs → Vs → Vs → Hv → Nat → Nat → Option Unit} {Q : Unit → Prop}
    (hk : ∀ s vF' vT' vRT' vG' vB' vH' kc' ks', (∀ k, k < 182 → k ≠ 4 → s k = pQ L X k) → NT s = t + 1 → WFc s → WFt s → RC s vC → RT s vT' → FI s vF' vRT' vG' vRF → HQ vH' → kc' ≤ kc + 2001 → ks' ≤ ks + 13003 → Ok (self183 (nI (t + 1)) vF' vT' vRT' vG' vB' vH' kc' ks') Q) :
    Ok (lp (f_L_law_L478 L X r5 vK vQ vP vM vC (nI t) vF vT vRT vG vB vH kc ks self183) (fun _ _ _ _ => none) FU (0 : Int32) (0 : Int32) (0 : Int32) (aV (nI (pI L X)) (fun _ => 0))) Q := by
  obtain ⟨⟨i2, i3⟩, ⟨g3, g6⟩, hK, hf1, hf2, hpo, hn4, hn1⟩ := p_ok L X
  obtain ⟨hd1, hd2, hdd⟩ := d12 L X t
  have eNI : NI r = pI L X := by
    show nn (r 0) = _
    rw [hlo 0 (by omega) (by omega)]
    exact (pQ_is L X).1
  refine zl4 (I := fun m x8 x9 x11 v => ∃ i, x11 = nI i ∧ x8 = nI (bN (d1 L X t) i) ∧ x9 = nI (bN (d2 L X t) i) ∧ i ≤ pI L X ∧ v.1 9 = nI (pI L X) ∧ (∀ j, j < i → v.2.1 0 j = nI (sv (pv L X t j))) ∧ m = pI L X - i) ?_ FU (pI L X) _ _ _ _ (by unfold FU; omega) ⟨0, rfl, rfl, rfl, by omega, rfl, fun j hj => by omega, by omega⟩
  rintro m x8 x9 x11 v self ⟨i, rfl, rfl, rfl, hle, hv9, hv, rfl⟩ ih
  unfold f_L_law_L478
  rw [h5, z_cl (show pI L X < 2147483648 by omega)]
  by_cases hb : pI L X ≤ i
  · obtain rfl : i = pI L X := by omega
    rw [ift hb (by omega)]
    obtain ⟨s, vF', vT', vH', ea, s1, s2, s3, s4, s5, s6, s7, s8, s9⟩ := u_addTest hw ht hC hT hF hH (by omega) (a := bN (d1 L X t) (pI L X)) (b := bN (d2 L X t) (pI L X)) (by rw [eNI]; exact bN_lt hd1 _) (by rw [eNI]; exact bN_lt hd2 _) (bN_and hd1 hd2 hdd _)
    have hAQ : AQ s (tv s t) v := by
      have es : NI s = NI r := by
        show nn (s 0) = nn (r 0)
        rw [s1 0 (by omega) (by omega)]
      refine ⟨by rw [es, eNI]; exact hv9, fun j hj => ?_⟩
      rw [es] at hj
      have e := s9 j hj
      rw [hNT, bN_fq hd1, bN_fq hd2, eNI.symm, if_pos hj, if_pos hj] at e
      have p2 := pv_2 L X t j
      have et : tv s t j = pv L X t j := by
        rw [e]
        unfold d1 d2
        by_cases q2 : pv L X t j = 2
        · rw [if_pos q2, if_pos rfl, q2]
        · rw [if_neg q2, if_neg (by omega)]
          by_cases q1 : pv L X t j = 1
          · rw [if_pos q1, q1]
          · rw [if_neg q1]; omega
      rw [et]
      exact ⟨hv j (by omega), p2⟩
    obtain ⟨vF2, vRT2, vG2, vB2, ei, hF2⟩ := l_isTest s3 s4 (vB := vB) s5 s6 s7 (hm.of hw s1) (t := t) (by omega) hAQ
    refine ok_gd (decide_eq_true ⟨by omega, by omega⟩) ?_
    rw [ea, z_o5, if_pos rfl, hNT, iet rfl]
    refine ok_gd (decide_eq_true ⟨by omega, by omega⟩) ?_
    rw [ei, z_o5, if_neg (show ¬ nI 1 = (0 : Int32) by decide), z_l1, nI_add]
    exact hk s _ _ _ _ _ _ _ _ (fun k h1 h2 => (s1 k h1 h2).trans (hlo k h1 h2)) (by omega) s3 s4 s5 s6 hF2 s8 (by omega) (by omega)
  · rw [iff_ hb (by omega)]
    refine ok_gd (decide_eq_true ⟨by omega, by omega⟩) ?_
    rw [show (9 : Int32) + nI t = nI (9 + t) from nI_add 9 t, l_cell hL X (by omega), z_o1]
    refine ok_gd (decide_eq_true ⟨by omega, by omega⟩) ?_
    have hbd : f_L_bound (cX L X (9 + t) >>> (nI (3 * i) &&& 31)) (nI 3) = some (nI (pv L X t i)) := l_bound _ (by omega) (by omega)
    rw [z_l3, z_mul, hbd, z_o1]
    have p2 := pv_2 L X t i
    refine ok_j1 (fun x => x = nI (sv (pv L X t i))) (fun x hx => ?_) (fun k343 hk343 => ?_)
    · subst hx
      unfold f_L_law_J522
      rw [hv9, z_cl (by omega), z_cl (by omega)]
      refine ok_gd (z_inb (by omega) (by omega)) (ok_bn ?_)
      refine ok_j1 (fun x => x = nI (2 ^ i * d1 L X t i)) (fun x hx => ?_) (fun k348 hk348 => ?_)
      · subst hx
        unfold f_L_law_J539
        refine ok_j1 (fun x => x = nI (2 ^ i * d2 L X t i)) (fun x hx => ?_) (fun k351 hk351 => ?_)
        · subst hx
          unfold f_L_law_J558
          rw [or_d (bN_lt hd1 i) (hd1 i), or_d (bN_lt hd2 i) (hd2 i), z_l1, nI_add]
          refine ih _ _ _ _ _ (by omega) ⟨i + 1, rfl, rfl, rfl, by omega, hv9, fun j hj => ?_, rfl⟩
          rw [z_sI2]
          by_cases e : j = i
          · rw [e, z_u1 _ _ rfl]
          · rw [z_u2 _ _ e]
            exact hv j (by omega)
        · have e2 : d2 L X t i = if pv L X t i = 2 then 1 else 0 := rfl
          rw [z_l2]
          by_cases q : pv L X t i = 2
          · rw [iet q]
            rw [if_pos q] at e2
            exact hk351 _ (by rw [e2, Nat.mul_one]; exact g_shl i (by omega))
          · rw [ief q (by omega) (by omega)]
            rw [if_neg q] at e2
            exact hk351 _ (by rw [e2, Nat.mul_zero]; rfl)
      · have e1 : d1 L X t i = if pv L X t i = 1 then 1 else 0 := rfl
        rw [z_l1]
        by_cases q : pv L X t i = 1
        · rw [iet q]
          rw [if_pos q] at e1
          exact hk348 _ (by rw [e1, Nat.mul_one]; exact g_shl i (by omega))
        · rw [ief q (by omega) (by omega)]
          rw [if_neg q] at e1
          exact hk348 _ (by rw [e1, Nat.mul_zero]; rfl)
    · rw [z_l2]
      by_cases q : pv L X t i = 2
      · rw [iet q]
        exact hk343 _ (by rw [q]; rfl)
      · rw [ief q (by omega) (by omega), z_l1, nI_add]
        exact hk343 _ (by unfold sv; rw [if_neg q])
