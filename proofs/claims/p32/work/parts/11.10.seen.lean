/-! how many bits an int has; what was seen, counted by both -/
theorem q3_4 {X : Nat} (hX : X < 256 ^ 4) : ∃ c0 c1 c2 c3 t1 t2 t3, (c0 ≤ 8 ∧ c1 ≤ 8 ∧ c2 ≤ 8 ∧ c3 ≤ 8) ∧ (q3 4 X = c0 + 256 * t1 ∧ t1 = c1 + 256 * t2 ∧ t2 = c2 + 256 * t3 ∧ t3 = c3) ∧ cnt (fun k => X.testBit k) 32 = c0 + (c1 + (c2 + c3)) := by
  obtain ⟨c4, X5, l4, g4, e4, k4⟩ := q3_step (n := 3) hX
  obtain ⟨c5, X6, l5, g5, e5, k5⟩ := q3_step (n := 2) g4
  obtain ⟨c6, X7, l6, g6, e6, k6⟩ := q3_step (n := 1) g5
  obtain ⟨c7, X8, l7, g7, e7, k7⟩ := q3_step (n := 0) g6
  have z : q3 0 X8 = 0 := by
    unfold q3
    rw [show pM4 0 = 0 from rfl, Nat.and_zero]
  refine ⟨c4, c5, c6, c7, q3 3 X5, q3 2 X6, q3 1 X7, ⟨l4, l5, l6, l7⟩, ⟨e4, e5, e6, by rw [e7, z, Nat.mul_zero, Nat.add_zero]⟩, ?_⟩
  rw [show (32 : Nat) = 8 + 8 * 3 from rfl, k4, show 8 * 3 = 8 + 8 * 2 from rfl, k5, show 8 * 2 = 8 + 8 * 1 from rfl, k6, show 8 * 1 = 8 + 8 * 0 from rfl, k7]
  rfl
abbrev NI_ (x : Int32) : Nat := x.toBitVec.toNat
theorem nI_and (x y : Int32) : NI_ (x &&& y) = NI_ x &&& NI_ y := BitVec.toNat_and _ _
theorem nI_ius (x : Int32) {k : Nat} (hk : k < 32) : NI_ (ius x (nI k)) = NI_ x / 2 ^ k := by
  unfold NI_ ius
  show ((x.toUInt32 >>> ((nI k).toUInt32 &&& Int32.toUInt32 31)).toBitVec).toNat = _
  rw [UInt32.toBitVec_shiftRight, BitVec.ushiftRight_eq', BitVec.toNat_ushiftRight, e_ius k hk, Nat.shiftRight_eq_div_pow]
  rfl
theorem nI_addB {x y : Int32} (h : NI_ x + NI_ y < 4294967296) : NI_ (x + y) = NI_ x + NI_ y := by
  show (x.toBitVec + y.toBitVec).toNat = _
  rw [BitVec.toNat_add]
  exact Nat.mod_eq_of_lt h
theorem nI_subB {x y : Int32} (h : NI_ y ≤ NI_ x) : NI_ (x - y) = NI_ x - NI_ y := by
  show (x.toBitVec - y.toBitVec).toNat = _
  exact BitVec.toNat_sub_of_le h
theorem pc_end4 {Y3 Y4 Y5 c0 c1 c2 c3 t1 t2 t3 : Nat} (l : c0 ≤ 8 ∧ c1 ≤ 8 ∧ c2 ≤ 8 ∧ c3 ≤ 8) (t : Y3 = c0 + 256 * t1 ∧ t1 = c1 + 256 * t2 ∧ t2 = c2 + 256 * t3 ∧ t3 = c3) (h4 : Y4 = Y3 + Y3 / 256) (h5 : Y5 = Y4 + Y4 / 65536) : Y5 % 64 = c0 + (c1 + (c2 + c3)) := by
  obtain ⟨l0, l1, l2, l3⟩ := l
  obtain ⟨e0, e1, e2, e3⟩ := t
  have a1 : Y3 / 256 = t1 := by clear h4 h5 e1 e2 e3; omega
  rw [a1] at h4
  have v0 : Y4 = (c0 + c1) + 256 * (t1 + t2) - 256 * t2 + 256 * t2 := by clear h5 e2 e3; omega
  have v1 : Y4 = (c0 + c1) + 256 * (c1 + c2) + 65536 * (t2 + t3) := by clear h5 e3 v0; omega
  have a2 : Y4 / 65536 = t2 + t3 := by clear h5 h4 v0 e0 e1 e2 e3 a1; omega
  rw [a2] at h5
  clear v0 h4 a1 a2 e0 e1
  omega
theorem x_bitCountI (x : Int32) : f_J6_bitCount_0f7a4 x = some (nI (cnt (fun k => bI x k) 32)) := by
  have hX : NI_ x < 256 ^ 4 := x.toBitVec.isLt
  obtain ⟨c0, c1, c2, c3, t1, t2, t3, l, t, ec⟩ := q3_4 hX
  have m1 : NI_ (1431655765 : Int32) = pM1 4 := by decide
  have m2 : NI_ (858993459 : Int32) = pM2 4 := by decide
  have m4 : NI_ (252645135 : Int32) = pM4 4 := by decide
  have hm2 : pM2 4 = 858993459 := by decide
  have hm4 : pM4 4 = 252645135 := by decide
  unfold f_J6_bitCount_0f7a4
  rw [z_l1, z_l2, z_l4, z_l8, z_l16, z_bn, z_bn]
  generalize hy1 : x - (ius x (nI 1) &&& 1431655765) = y1
  have n1 : NI_ y1 = q1 4 (NI_ x) := by
    rw [← hy1, nI_subB, nI_and, nI_ius _ (by omega), m1]
    · rfl
    · rw [nI_and, nI_ius _ (by omega), m1]
      exact q_all _ _
  generalize hy2 : (y1 &&& 858993459) + (ius y1 (nI 2) &&& 858993459) = y2
  have r1 : ∀ z : Int32, NI_ (z &&& 858993459) ≤ 858993459 := fun z => by
    rw [nI_and, m2, hm2]
    exact Nat.and_le_right
  have n2 : NI_ y2 = q2 4 (NI_ x) := by
    rw [← hy2, nI_addB (by have a := r1 y1; have b := r1 (ius y1 (nI 2)); omega), nI_and, nI_and, nI_ius _ (by omega), m2, n1]
    rfl
  have l2' : NI_ y2 ≤ 1717986918 := by
    rw [← hy2, nI_addB (by have a := r1 y1; have b := r1 (ius y1 (nI 2)); omega)]
    have a := r1 y1
    have b := r1 (ius y1 (nI 2))
    omega
  generalize hy3 : (y2 + ius y2 (nI 4)) &&& 252645135 = y3
  have hd4 : NI_ (ius y2 (nI 4)) = NI_ y2 / 16 := nI_ius _ (by omega)
  have n3 : NI_ y3 = q3 4 (NI_ x) := by
    rw [← hy3, nI_and, nI_addB (by rw [hd4]; omega), hd4, m4, n2]
    rfl
  have l3 : NI_ y3 ≤ 252645135 := by
    rw [← hy3, nI_and, m4, hm4]
    exact Nat.and_le_right
  generalize hy4 : y3 + ius y3 (nI 8) = y4
  have hd8 : NI_ (ius y3 (nI 8)) = NI_ y3 / 256 := nI_ius _ (by omega)
  have n4 : NI_ y4 = NI_ y3 + NI_ y3 / 256 := by rw [← hy4, nI_addB (by rw [hd8]; omega), hd8]
  have hd16 : NI_ (ius y4 (nI 16)) = NI_ y4 / 65536 := nI_ius _ (by omega)
  generalize hy5 : y4 + ius y4 (nI 16) = y5
  have n5 : NI_ y5 = NI_ y4 + NI_ y4 / 65536 := by rw [← hy5, nI_addB (by rw [hd16]; omega), hd16]
  rw [n3.symm] at t
  have e7 := pc_end4 l t n4 n5
  have hc : cnt (fun k => bI x k) 32 = c0 + (c1 + (c2 + c3)) := by
    rw [← ec]
    exact cnt_cong _ (fun k _ => rfl)
  rw [hc]
  refine congrArg some ?_
  apply Int32.toBitVec_inj.mp
  apply BitVec.eq_of_toNat_eq
  show (y5.toBitVec &&& (63 : Int32).toBitVec).toNat = (BitVec.ofNat 32 _).toNat
  rw [BitVec.toNat_and, BitVec.toNat_ofNat]
  have e127 : (63 : Int32).toBitVec.toNat = 2 ^ 6 - 1 := by decide
  rw [e127, Nat.and_two_pow_sub_one_eq_mod]
  have e8 : y5.toBitVec.toNat % 2 ^ 6 = NI_ y5 % 64 := rfl
  rw [e8, e7]
  exact (Nat.mod_eq_of_lt (by omega)).symm
def smn (f : Nat → Nat) : Nat → Nat
  | 0 => 0
  | n + 1 => smn f n + f n
theorem smn_cong {f g : Nat → Nat} : ∀ n, (∀ k, k < n → f k = g k) → smn f n = smn g n
  | 0, _ => rfl
  | n + 1, h => by
    show smn f n + f n = smn g n + g n
    rw [smn_cong n (fun k hk => h k (by omega)), h n (by omega)]
theorem smn_add (f : Nat → Nat) (p : Nat → Bool) : ∀ n, smn (fun t => f t + (if p t then 1 else 0)) n = smn f n + cnt p n
  | 0 => rfl
  | n + 1 => by
    show smn (fun t => f t + (if p t then 1 else 0)) n + (f n + (if p n then 1 else 0)) = (smn f n + f n) + (cnt p n + (if p n then 1 else 0))
    rw [smn_add f p n]
    omega
theorem smn_zero : ∀ n, smn (fun _ => 0) n = 0
  | 0 => rfl
  | n + 1 => smn_zero n
theorem smn_swap (P : Nat → Nat → Bool) (m : Nat) : ∀ n, smn (fun o => cnt (fun t => P t o) m) n = smn (fun t => cnt (fun o => P t o) n) m
  | 0 => (smn_zero m).symm
  | n + 1 => by
    show smn (fun o => cnt (fun t => P t o) m) n + cnt (fun t => P t n) m = smn (fun t => cnt (fun o => P t o) n + (if P t n then 1 else 0)) m
    rw [smn_add, smn_swap P m n]
theorem smn_le {f : Nat → Nat} {c : Nat} : ∀ n, (∀ k, k < n → f k ≤ c) → smn f n ≤ c * n
  | 0, _ => Nat.zero_le _
  | n + 1, h => by
    have h1 := smn_le n (fun k hk => h k (by omega))
    have h2 := h n (by omega)
    show smn f n + f n ≤ c * (n + 1)
    rw [Nat.mul_succ]
    omega
theorem smn_cut {f : Nat → Nat} {m : Nat} : ∀ n, m ≤ n → (∀ k, m ≤ k → k < n → f k = 0) → smn f n = smn f m
  | 0, h, _ => by
    have : m = 0 := by omega
    rw [this]
  | n + 1, h, h0 => by
    by_cases e : m = n + 1
    · rw [e]
    · show smn f n + f n = smn f m
      rw [h0 n (by omega) (by omega), Nat.add_zero]
      exact smn_cut n (by omega) (fun k h1 h2 => h0 k h1 (by omega))
theorem cnt_cut {p : Nat → Bool} {m : Nat} : ∀ n, m ≤ n → (∀ k, m ≤ k → k < n → p k = false) → cnt p n = cnt p m
  | 0, h, _ => by
    have : m = 0 := by omega
    rw [this]
  | n + 1, h, h0 => by
    by_cases e : m = n + 1
    · rw [e]
    · show cnt p n + (if p n then 1 else 0) = cnt p m
      rw [h0 n (by omega) (by omega), cnt_cut n (by omega) (fun k h1 h2 => h0 k h1 (by omega))]
      rfl
theorem cnt_or {p q : Nat → Bool} : ∀ n, (∀ k, k < n → ¬ (p k = true ∧ q k = true)) → cnt p n + cnt q n = cnt (fun k => p k || q k) n
  | 0, _ => rfl
  | n + 1, h => by
    have h1 := cnt_or n (fun k hk => h k (by omega))
    have h2 := h n (by omega)
    show (cnt p n + (if p n then 1 else 0)) + (cnt q n + (if q n then 1 else 0)) = cnt (fun k => p k || q k) n + (if (p n || q n) then 1 else 0)
    cases hp : p n <;> cases hq : q n
    · simp; omega
    · simp; omega
    · simp; omega
    · exact absurd ⟨hp, hq⟩ h2
/-- was a value seen for test t at output o -/
def SE (r : Nat → Int32) (t o : Nat) : Bool := decide (sn r t o ≠ 2)
def SNM (r : Nat → Int32) : Nat := smn (fun t => cnt (fun o => SE r t o) (NO r)) (NT r)
theorem seen_cols {r : Nat → Int32} (hw : WFc r) (ht : WFt r) {vT : Vs} (hT : RT r vT) {o : Nat} (h6 : o < 6) : cnt (fun k => bI (vT.2.1 3 o) k) 32 + cnt (fun k => bI (vT.2.1 4 o) k) 32 = if o < NO r then cnt (fun t => SE r t o) (NT r) else 0 := by
  have h16 := ht.1.2
  rw [cnt_or _ (fun k hk => by rw [(hT.2.2 o k h6 hk).1, (hT.2.2 o k h6 hk).2]; simp; omega)]
  by_cases ho : o < NO r
  · rw [if_pos ho, cnt_cut (m := NT r) 32 (by omega) (fun k h1 h2 => by rw [(hT.2.2 o k h6 h2).1, (hT.2.2 o k h6 h2).2]; simp; omega)]
    refine cnt_cong _ (fun k hk => ?_)
    rw [(hT.2.2 o k h6 (by omega)).1, (hT.2.2 o k h6 (by omega)).2]
    have h2 := (ht.2.2 k o hk h6).2
    have hv : sn r k o = 0 ∨ sn r k o = 1 ∨ sn r k o = 2 := by omega
    unfold SE
    rcases hv with hv | hv | hv <;> simp [hv, hk, ho]
  · rw [if_neg ho]
    exact cnt_zero _ (fun k hk => by rw [(hT.2.2 o k h6 hk).1, (hT.2.2 o k h6 hk).2]; simp [ho])
theorem x_countSeen {r : Nat → Int32} (hw : WFc r) (ht : WFt r) {vT : Vs} (hT : RT r vT) : f_X6_countSeen vT = some (nI (SNM r)) := by
  have hn := hw.nf
  have h16 := ht.1.2
  have e : SNM r = smn (fun o => cnt (fun k => bI (vT.2.1 3 o) k) 32 + cnt (fun k => bI (vT.2.1 4 o) k) 32) 6 := by
    rw [smn_cut (m := NO r) 6 (by omega) (fun k h1 h2 => by rw [seen_cols hw ht hT h2, if_neg (by omega)])]
    rw [smn_cong (NO r) (g := fun o => cnt (fun t => SE r t o) (NT r)) (fun k hk => by rw [seen_cols hw ht hT (by omega), if_pos hk])]
    exact (smn_swap (fun t o => SE r t o) (NT r) (NO r)).symm
  rw [e]
  have hb : ∀ o, o ≤ 6 → smn (fun o => cnt (fun k => bI (vT.2.1 3 o) k) 32 + cnt (fun k => bI (vT.2.1 4 o) k) 32) o ≤ 64 * o := fun o _ => smn_le o (fun k _ => by
    have h1 := cnt_le (fun j => bI (vT.2.1 3 k) j) 32
    have h2 := cnt_le (fun j => bI (vT.2.1 4 k) j) 32
    omega)
  refine ok_get ?_
  unfold f_X6_countSeen
  refine zl2 (I := fun m x y => ∃ o, x = nI (smn (fun o => cnt (fun k => bI (vT.2.1 3 o) k) 32 + cnt (fun k => bI (vT.2.1 4 o) k) 32) o) ∧ y = nI o ∧ o ≤ 6 ∧ m = 6 - o) ?_ FU 6 _ _ (by unfold FU; omega) ⟨0, rfl, rfl, by omega, by omega⟩
  rintro m x y self ⟨o, rfl, rfl, hle, rfl⟩ ih
  unfold f_X6_countSeen_L4
  rw [z_l6]
  by_cases hq : 6 ≤ o
  · rw [ift hq (by omega)]
    have e : o = 6 := by omega
    subst e
    exact ok_some rfl
  · rw [iff_ hq (by omega)]
    refine ok_gd (z_inb (by omega) (by omega)) ?_
    refine ok_o1e (x_bitCountI _) ?_
    refine ok_gd (z_inb (by omega) (by omega)) ?_
    refine ok_o1e (x_bitCountI _) ?_
    rw [z_cl (by omega), z_l1, nI_add, nI_add, nI_add]
    exact ih _ _ _ (by omega) ⟨o + 1, rfl, rfl, by omega, rfl⟩
