/-! the invariant; history; a test added -/
def GR (r : Nat → Int32) (c t : Vs) : Prop := WFc r ∧ WFt r ∧ RC r c ∧ RT r t
def rwv (v : Vs) (m : Nat) : Nat → Int32 := fun k => if k < 440 then v.2.1 1 (440 * m + k) else nI 0
theorem MS.of {v : Vs} {n : Nat} (h : v.1 3 = nI n) (h9 : n < 9) : MS v n (rwv v n) := ⟨h, h9, fun k hk => by unfold rwv; rw [if_pos hk]⟩
theorem MS.rw {v : Vs} {n : Nat} {r : Nat → Int32} (h : MS v n r) {k : Nat} (hk : k < 440) : rwv v n k = r k := by
  unfold rwv
  rw [if_pos hk]
  exact h.2.2 k hk
theorem rwv_eq {v v' : Vs} {m : Nat} (h : ∀ k, k < 440 → v'.2.1 1 (440 * m + k) = v.2.1 1 (440 * m + k)) : rwv v' m = rwv v m := by
  funext k
  unfold rwv
  by_cases hk : k < 440
  · rw [if_pos hk, if_pos hk, h k hk]
  · rw [if_neg hk, if_neg hk]
theorem rwv_qm {v v' : Vs} (h : QM v v') (m : Nat) : rwv v' m = rwv v m := rwv_eq (fun k _ => by rw [h.2.2.2.2.1])
def HX (v : Vs) (n : Nat) (h : Hv) : Prop := ∃ u x, v.1 4 = nI u ∧ u ≤ 8 ∧ h.1.1 0 = nI u ∧ h.1.1 1 = nI x ∧ x < 8 ∧ ∀ j, 1 ≤ j → j ≤ u → GR (rwv v ((n + 9 - j) % 9)) (h.2.1 ((x + 8 - j) % 8)) (h.2.2 ((x + 8 - j) % 8))
theorem HX.qm {v v' : Vs} {n : Nat} {h : Hv} (hx : HX v n h) (hq : QM v v') : HX v' n h := by
  obtain ⟨u, x, a, b, c, d, e, f⟩ := hx
  exact ⟨u, x, hq.2.1.trans a, b, c, d, e, fun j h1 h2 => by rw [rwv_qm hq]; exact f j h1 h2⟩
/-- the text that was fed, and where an error was -/
def TX (v d : Vs) : Prop := ∃ L, v.1 12 = nI L ∧ d.1 1 = nI L ∧ L ≤ 800 ∧ (∀ i, i < L → v.2.1 11 i = d.2.1 3 i ∧ ∃ b, b < 256 ∧ d.2.1 3 i = nI b) ∧ v.1 16 = d.1 2
theorem TX.same {v v' d : Vs} (h : TX v d) (h12 : v'.1 12 = v.1 12) (h16 : v'.1 16 = v.1 16) (h11 : v'.2.1 11 = v.2.1 11) : TX v' d := by
  obtain ⟨L, a, b, c, e, f⟩ := h
  exact ⟨L, h12.trans a, b, c, fun i hi => by rw [h11]; exact e i hi, h16.trans f⟩
theorem TX.qm {v v' d : Vs} (h : TX v d) (hq : QM v v') : TX v' d := h.same hq.2.2.1 hq.2.2.2.1 hq.2.2.2.2.2
theorem x_push {r : Nat → Int32} {vC vT : Vs} (hg : GR r vC vT) {h : Hv} {u x : Nat} (h0 : h.1.1 0 = nI u) (hu : u ≤ 8) (h1 : h.1.1 1 = nI x) (hx : x < 8) : ∃ h' c t, f_X1_push vC vT h = some h' ∧ GR r c t ∧ h'.1.1 0 = nI (if 8 ≤ u then 8 else u + 1) ∧ h'.1.1 1 = nI ((x + 1) % 8) ∧ h'.2.1 = upH h.2.1 x c ∧ h'.2.2 = upH h.2.2 x t := by
  obtain ⟨g1, g2, g3, g4⟩ := hg
  obtain ⟨c, ec, hc⟩ := x_copyC (vC := h.2.1 x) g1 g3
  obtain ⟨t, et, hT⟩ := x_copyT (vT := h.2.2 x) g2 g4
  have e4 : f_X4_copyFrom (h.2.1 x) (h.2.2 x) vC vT = some (c, t) := by
    unfold f_X4_copyFrom
    rw [ec, z_o1, et, z_o1]
  have ek : (if nI 8 < nI (u + 1) then nI 8 else nI (u + 1)) = nI (if 8 ≤ u then 8 else u + 1) := by
    by_cases h8 : 8 ≤ u
    · rw [ilt (by omega) (by omega), if_pos h8]
    · rw [ilf (by omega) (by omega), if_neg h8]
  refine ⟨(sF (sF h.1 1 (nI ((x + 1) % 8))) 0 (nI (if 8 ≤ u then 8 else u + 1)), upH h.2.1 x c, upH h.2.2 x t), c, t, ?_, ⟨g1, g2, hc, hT⟩, z_sF1 _ _ _, ?_, rfl, rfl⟩
  · unfold f_X1_push
    rw [h1, z_inb hx (by omega), z_gt, z_cl (by omega), e4, z_o2, z_bn, z_l8, z_nz (by omega) (by omega), z_gt, z_bn]
    have e5 : (h.1, upH h.2.1 x c, upH h.2.2 x t).1.1 1 = nI x := h1
    rw [e5, z_l1, nI_add, z_div (by omega) (by omega), z_mul, z_sub (by omega), show x + 1 - (x + 1) / 8 * 8 = (x + 1) % 8 by omega, z_bn]
    have e6 : (sF h.1 1 (nI ((x + 1) % 8)), upH h.2.1 x c, upH h.2.2 x t).1.1 0 = nI u := by
      show (sF h.1 1 (nI ((x + 1) % 8))).1 0 = nI u
      rw [z_sF2 _ _ _ (by decide), h0]
    rw [e6, nI_add, ek]
  · show (sF (sF h.1 1 (nI ((x + 1) % 8))) 0 _).1 1 = _
    rw [z_sF2 _ _ _ (by decide), z_sF1]
theorem fq_bit (N i : Nat) : N.testBit i = decide (fq N i = 1) := by
  unfold fq
  rw [Nat.testBit_eq_decide_div_mod_eq]
/-- the cells of test number t are apart from k -/
def offT (r : Nat → Int32) (t k : Nat) : Prop := (∀ i, i < NI r → k ≠ 182 + 8 * t + i) ∧ ∀ o, o < 6 → k ≠ 310 + 6 * t + o
def ADD (r s : Nat → Int32) (a b : Nat) : Prop := (∀ k, k < 440 → k ≠ 4 → offT r (NT r) k → s k = r k) ∧ s 4 = nI (NT r + 1) ∧ (∀ i, i < NI r → s (182 + 8 * NT r + i) = nI (if fq b i = 1 then 2 else fq a i)) ∧ ∀ o, o < 6 → s (310 + 6 * NT r + o) = nI 2
/-- the row with the test added, and the class's list with it -/
theorem add_ok {r s : Nat → Int32} (hw : WFc r) (ht : WFt r) (h16 : NT r < 16) {a b : Nat} (hab : a &&& b = 0) (hA : ADD r s a b) {vT : Vs} (hT : RT r vT) : WFc s ∧ WFt s ∧ (∀ k, k < 182 → k ≠ 4 → s k = r k) ∧ NT s = NT r + 1 ∧ ∃ v', f_X6_put vT (nI a) (nI b) = some v' ∧ RT s v' := by
  have hn := hw.nf
  obtain ⟨h1, h4, hi, ho⟩ := hA
  have hlow : ∀ k, k < 182 → k ≠ 4 → s k = r k := fun k hk hk4 => h1 k (by omega) hk4 ⟨fun i _ => by omega, fun o _ => by omega⟩
  have e0 : NI s = NI r := by show nn (s 0) = nn (r 0); rw [hlow 0 (by omega) (by omega)]
  have e2 : NO s = NO r := by show nn (s 2) = nn (r 2); rw [hlow 2 (by omega) (by omega)]
  have e4 : NT s = NT r + 1 := by show nn (s 4) = _; rw [h4, nn_nI (by omega)]
  have hot : ∀ t i, t < NT r → i < NI r → s (182 + 8 * t + i) = r (182 + 8 * t + i) ∧ tv s t i = tv r t i := fun t i ht2 hi2 => by
    have := h1 (182 + 8 * t + i) (by omega) (by omega) ⟨fun j _ => by omega, fun o _ => by omega⟩
    exact ⟨this, by show nn _ = nn _; rw [this]⟩
  have hos : ∀ t o, t < NT r → o < 6 → s (310 + 6 * t + o) = r (310 + 6 * t + o) ∧ sn s t o = sn r t o := fun t o ht2 ho2 => by
    have := h1 (310 + 6 * t + o) (by omega) (by omega) ⟨fun j _ => by omega, fun o' _ => by omega⟩
    exact ⟨this, by show nn _ = nn _; rw [this]⟩
  have hla : ∀ i, (if fq b i = 1 then 2 else fq a i) ≤ 2 := fun i => by
    have := fq_1 a i
    split <;> omega
  have tvn : ∀ i, i < NI r → tv s (NT r) i = if fq b i = 1 then 2 else fq a i := fun i hi2 => by
    have := hla i
    show nn (s (182 + 8 * NT r + i)) = _
    rw [hi i hi2, nn_nI (by omega)]
  have snn : ∀ o, o < 6 → sn s (NT r) o = 2 := fun o ho2 => by
    show nn (s (310 + 6 * NT r + o)) = _
    rw [ho o ho2, nn_nI (by omega)]
  refine ⟨hw.of hlow, ⟨⟨by rw [h4, e4], by omega⟩, fun t i h2 h3 => ?_, fun t o h2 h3 => ?_⟩, hlow, e4, ?_⟩
  · by_cases e : t = NT r
    · subst e
      rw [tvn i (by omega)]
      exact ⟨hi i (by omega), hla i⟩
    · obtain ⟨a1, a2⟩ := hot t i (by omega) (by omega)
      rw [a1, a2]
      exact ht.2.1 t i (by omega) (by omega)
  · by_cases e : t = NT r
    · subst e
      rw [snn o h3]
      exact ⟨ho o h3, by omega⟩
    · obtain ⟨a1, a2⟩ := hos t o (by omega) h3
      rw [a1, a2]
      exact ht.2.2 t o (by omega) h3
  · obtain ⟨b1, b2, b3⟩ := hT
    refine ⟨sF (sI (sI vT 1 (NT r) (nI a)) 2 (NT r) (nI b)) 0 (nI (NT r + 1)), ?_, ?_, fun t i h2 h3 => ?_, fun o t h2 h3 => ?_⟩
    · unfold f_X6_put
      have g1 : (sI vT 1 (NT r) (nI a)).1 0 = nI (NT r) := b1
      have g2 : (sI (sI vT 1 (NT r) (nI a)) 2 (NT r) (nI b)).1 0 = nI (NT r) := b1
      rw [b1, z_inb (by omega) (by omega), z_gt, z_cl (by omega), z_bn, g1, z_inb (by omega) (by omega), z_gt, z_cl (by omega), z_bn, g2, z_l1, nI_add, z_bn]
    · rw [z_sF1, e4]
    · rw [z_sF0, z_sI3 _ _ _ _ (by decide), z_sI2, z_sI2, z_sI3 _ _ _ _ (by decide)]
      by_cases e : t = NT r
      · subst e
        have hab2 : ¬ (fq a i = 1 ∧ fq b i = 1) := by
          rintro ⟨z1, z2⟩
          have q : (a &&& b).testBit i = true := by
            rw [Nat.testBit_and, fq_bit, fq_bit, z1, z2]
            rfl
          rw [hab, Nat.zero_testBit] at q
          cases q
        rw [z_u1 _ _ rfl, z_u1 _ _ rfl, tvn i (by omega), bI_nI, bI_nI, fq_bit, fq_bit]
        have h32 : i < 32 := by omega
        have la := fq_1 a i
        have lb := fq_1 b i
        by_cases c1 : fq b i = 1
        · have c2 : ¬ fq a i = 1 := fun z => hab2 ⟨z, c1⟩
          simp [h32, c1, c2]
        · have c0 : fq b i = 0 := by omega
          by_cases c2 : fq a i = 1
          · simp [h32, c0, c2]
          · have c3 : fq a i = 0 := by omega
            simp [h32, c0, c3]
      · rw [z_u2 _ _ e, z_u2 _ _ e, (hot t i (by omega) (by omega)).2]
        exact b2 t i (by omega) (by omega)
    · rw [z_sF0, z_sI3 _ _ _ _ (by decide), z_sI3 _ _ _ _ (by decide), z_sI3 _ _ _ _ (by decide), z_sI3 _ _ _ _ (by decide), (b3 o t h2 h3).1, (b3 o t h2 h3).2, e2, e4]
      by_cases e : t = NT r
      · subst e
        rw [snn o h2]
        simp
      · by_cases c : t < NT r
        · have : t < NT r + 1 := by omega
          rw [(hos t o c h2).2]
          simp [c, this]
        · have : ¬ t < NT r + 1 := by omega
          simp [c, this]
theorem z_shr {x : Int32} {k : Nat} (hk : k ≤ 8) : (x >>> (nI k &&& 31) = 0) ↔ ∃ a, a < 2 ^ k ∧ x = nI a := by
  have e : (x >>> (nI k &&& 31)).toInt = x.toInt / (2 ^ k : Nat) := by
    show ((x >>> (nI k &&& 31)).toBitVec).toInt = _
    rw [Int32.toBitVec_shiftRight, BitVec.sshiftRight_eq', e_shl k (by omega), BitVec.toInt_sshiftRight, Int.shiftRight_eq_div_pow]
    rfl
  have hp := Nat.two_pow_pos k
  have h2k : 2 ^ k ≤ 256 := show 2 ^ k ≤ 2 ^ 8 from Nat.pow_le_pow_right (by omega) hk
  constructor
  · intro h
    have h0 : x.toInt / (2 ^ k : Nat) = 0 := by rw [← e, h]; rfl
    have hn : ¬ x < 0 := by
      intro q
      rw [Int32.lt_iff_toInt_lt] at q
      have z : (0 : Int32).toInt = 0 := rfl
      rw [z] at q
      have := Int.ediv_neg_of_neg_of_pos q (show (0 : Int) < ((2 ^ k : Nat) : Int) by omega)
      omega
    obtain ⟨j, hj, rfl⟩ := nI_of hn
    refine ⟨j, ?_, rfl⟩
    rw [nI_toInt hj] at h0
    have h1 : j / 2 ^ k = 0 := by
      have h2 : ((j / 2 ^ k : Nat) : Int) = 0 := h0
      omega
    exact (Nat.div_eq_zero_iff_lt hp).mp h1
  · rintro ⟨a, ha, rfl⟩
    apply Int32.toInt_inj.mp
    rw [e, nI_toInt (by omega)]
    have h1 : a / 2 ^ k = 0 := Nat.div_eq_of_lt ha
    have h2 : ((a : Int) / ((2 ^ k : Nat) : Int)) = ((a / 2 ^ k : Nat) : Int) := rfl
    rw [h2, h1]
    rfl
