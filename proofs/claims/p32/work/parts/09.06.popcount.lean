/-! how many bits a long has: the JDK's way -/
def cnt (p : Nat → Bool) : Nat → Nat
  | 0 => 0
  | n + 1 => cnt p n + (if p n then 1 else 0)
theorem cnt_le (p : Nat → Bool) : ∀ n, cnt p n ≤ n
  | 0 => Nat.le_refl 0
  | n + 1 => by
    have := cnt_le p n
    show cnt p n + _ ≤ _
    split <;> omega
theorem cnt_cong {p q : Nat → Bool} : ∀ n, (∀ k, k < n → p k = q k) → cnt p n = cnt q n
  | 0, _ => rfl
  | n + 1, h => by
    show cnt p n + _ = cnt q n + _
    rw [cnt_cong n (fun k hk => h k (by omega)), h n (by omega)]
theorem cnt_split (p : Nat → Bool) (m : Nat) : ∀ n, cnt p (m + n) = cnt p m + cnt (fun k => p (m + k)) n
  | 0 => rfl
  | n + 1 => by
    show cnt p (m + n) + _ = cnt p m + (cnt (fun k => p (m + k)) n + _)
    rw [cnt_split p m n, Nat.add_assoc]
    rfl
theorem cnt_zero {p : Nat → Bool} : ∀ n, (∀ k, k < n → p k = false) → cnt p n = 0
  | 0, _ => rfl
  | n + 1, h => by
    show cnt p n + _ = 0
    rw [cnt_zero n (fun k hk => h k (by omega)), h n (by omega)]
    rfl
def pM1 : Nat → Nat
  | 0 => 0
  | n + 1 => 85 + 256 * pM1 n
def pM2 : Nat → Nat
  | 0 => 0
  | n + 1 => 51 + 256 * pM2 n
def pM4 : Nat → Nat
  | 0 => 0
  | n + 1 => 15 + 256 * pM4 n
theorem and8 {u v m M : Nat} (hu : u < 256) (hm : m < 256) : (u + 256 * v) &&& (m + 256 * M) = (u &&& m) + 256 * (v &&& M) := by
  have h1 := Nat.and_mod_two_pow (a := u + 256 * v) (b := m + 256 * M) (n := 8)
  have h2 := Nat.and_div_two_pow (a := u + 256 * v) (b := m + 256 * M) (n := 8)
  rw [show (2 : Nat) ^ 8 = 256 from rfl] at h1 h2
  rw [show (u + 256 * v) % 256 = u by omega, show (m + 256 * M) % 256 = m by omega] at h1
  rw [show (u + 256 * v) / 256 = v by omega, show (m + 256 * M) / 256 = M by omega] at h2
  omega
def q1 (n X : Nat) : Nat := X - (X / 2 &&& pM1 n)
def q2 (n X : Nat) : Nat := (q1 n X &&& pM2 n) + (q1 n X / 4 &&& pM2 n)
def q3 (n X : Nat) : Nat := (q2 n X + q2 n X / 16) &&& pM4 n
def b1 (a : Nat) : Nat := a - (a / 2 &&& 85)
def b2 (a : Nat) : Nat := (b1 a &&& 51) + (b1 a / 4 &&& 51)
def b3 (a : Nat) : Nat := (b2 a + b2 a / 16) &&& 15
theorem by_1 : ∀ a, a < 256 → (a / 2 &&& 85) ≤ a ∧ b1 a < 256 ∧ b2 a ≤ 68 ∧ b2 a % 16 ≤ 4 ∧ b3 a ≤ 8 ∧ b3 a = cnt (fun k => a.testBit k) 8 := by decide +kernel
theorem by_2 : ∀ a, a < 256 → ∀ c, c < 2 → (a / 2 + 128 * c) &&& 85 = a / 2 &&& 85 := by decide +kernel
theorem by_3 : ∀ a, a < 256 → ∀ c, c < 4 → (a / 4 + 64 * c) &&& 51 = a / 4 &&& 51 := by decide +kernel
theorem by_4 : ∀ a, a < 69 → ∀ c, c < 5 → (a + a / 16 + 16 * c) &&& 15 = (a + a / 16) &&& 15 := by decide +kernel
theorem q1_at {n a b : Nat} (ha : a < 256) (hb : (b / 2 &&& pM1 n) ≤ b) : q1 (n + 1) (a + 256 * b) = b1 a + 256 * q1 n b := by
  obtain ⟨h1, h2, -⟩ := by_1 a ha
  have e : (a + 256 * b) / 2 = (a / 2 + 128 * (b % 2)) + 256 * (b / 2) := by omega
  unfold q1 b1
  rw [e, show pM1 (n + 1) = 85 + 256 * pM1 n from rfl, and8 (by omega) (by omega), by_2 a ha _ (by omega)]
  omega
theorem q2_at {n a b : Nat} (ha : a < 256) (hb : (b / 2 &&& pM1 n) ≤ b) : q2 (n + 1) (a + 256 * b) = b2 a + 256 * q2 n b := by
  obtain ⟨h1, h2, -⟩ := by_1 a ha
  unfold q2 b2
  rw [q1_at ha hb]
  have e : (b1 a + 256 * q1 n b) / 4 = (b1 a / 4 + 64 * (q1 n b % 4)) + 256 * (q1 n b / 4) := by omega
  rw [e, show pM2 (n + 1) = 51 + 256 * pM2 n from rfl, and8 h2 (by omega), and8 (by omega) (by omega), by_3 _ h2 _ (by omega)]
  omega
theorem q3_at {n a b : Nat} (ha : a < 256) (hb : (b / 2 &&& pM1 n) ≤ b) (hc : q2 n b % 16 ≤ 4) : q3 (n + 1) (a + 256 * b) = b3 a + 256 * q3 n b ∧ q2 (n + 1) (a + 256 * b) % 16 ≤ 4 := by
  obtain ⟨h1, h2, h3, h4, -⟩ := by_1 a ha
  have e2 := q2_at ha hb
  refine ⟨?_, by rw [e2]; omega⟩
  unfold q3 b3
  rw [e2]
  have e : b2 a + 256 * q2 n b + (b2 a + 256 * q2 n b) / 16 = (b2 a + b2 a / 16 + 16 * (q2 n b % 16)) + 256 * (q2 n b + q2 n b / 16) := by omega
  rw [e, show pM4 (n + 1) = 15 + 256 * pM4 n from rfl, and8 (by omega) (by omega), by_4 _ (by omega) _ (by omega)]
theorem q_all : ∀ n X, (X / 2 &&& pM1 n) ≤ X
  | n, X => Nat.le_trans Nat.and_le_left (by omega)
theorem q_16 : ∀ n X, q2 n X % 16 ≤ 4
  | 0, X => by
    unfold q2
    rw [show pM2 0 = 0 from rfl, Nat.and_zero, Nat.and_zero]
    omega
  | n + 1, X => by
    have e : X = X % 256 + 256 * (X / 256) := by omega
    rw [e]
    exact (q3_at (by omega) (q_all _ _) (q_16 n _)).2
theorem q3_b {n a b : Nat} (ha : a < 256) : q3 (n + 1) (a + 256 * b) = b3 a + 256 * q3 n b := (q3_at ha (q_all _ _) (q_16 _ _)).1
theorem cnt_b {a b n : Nat} (ha : a < 256) : cnt (fun k => (a + 256 * b).testBit k) (8 + n) = b3 a + cnt (fun k => b.testBit k) n := by
  have e : a + 256 * b = 2 ^ 8 * b + a := by omega
  rw [e, cnt_split, (by_1 a ha).2.2.2.2.2]
  have h := fun j => Nat.testBit_two_pow_mul_add b (b := a) (i := 8) ha j
  congr 1
  · exact cnt_cong _ (fun k hk => by rw [h, if_pos hk])
  · exact cnt_cong _ (fun k _ => by rw [h, if_neg (by omega)]; congr 1; omega)
theorem d256 (n Y : Nat) (hY : Y < 256 ^ (n + 1)) : ∃ a b, a < 256 ∧ b < 256 ^ n ∧ Y = a + 256 * b := ⟨Y % 256, Y / 256, by omega, by rw [Nat.pow_succ] at hY; omega, by omega⟩
theorem q3_step {n X : Nat} (hX : X < 256 ^ (n + 1)) : ∃ c Y, c ≤ 8 ∧ Y < 256 ^ n ∧ q3 (n + 1) X = c + 256 * q3 n Y ∧ cnt (fun k => X.testBit k) (8 + 8 * n) = c + cnt (fun k => Y.testBit k) (8 * n) := by
  obtain ⟨a, b, ha, hb, rfl⟩ := d256 n X hX
  exact ⟨b3 a, b, (by_1 a ha).2.2.2.2.1, hb, q3_b ha, cnt_b ha⟩
theorem q3_8 {X : Nat} (hX : X < 256 ^ 8) : ∃ c0 c1 c2 c3 c4 c5 c6 c7 t1 t2 t3 t4 t5 t6 t7, (c0 ≤ 8 ∧ c1 ≤ 8 ∧ c2 ≤ 8 ∧ c3 ≤ 8 ∧ c4 ≤ 8 ∧ c5 ≤ 8 ∧ c6 ≤ 8 ∧ c7 ≤ 8) ∧ (q3 8 X = c0 + 256 * t1 ∧ t1 = c1 + 256 * t2 ∧ t2 = c2 + 256 * t3 ∧ t3 = c3 + 256 * t4 ∧ t4 = c4 + 256 * t5 ∧ t5 = c5 + 256 * t6 ∧ t6 = c6 + 256 * t7 ∧ t7 = c7) ∧ cnt (fun k => X.testBit k) 64 = c0 + (c1 + (c2 + (c3 + (c4 + (c5 + (c6 + c7)))))) := by
  obtain ⟨c0, X1, l0, g0, e0, k0⟩ := q3_step (n := 7) hX
  obtain ⟨c1, X2, l1, g1, e1, k1⟩ := q3_step (n := 6) g0
  obtain ⟨c2, X3, l2, g2, e2, k2⟩ := q3_step (n := 5) g1
  obtain ⟨c3, X4, l3, g3, e3, k3⟩ := q3_step (n := 4) g2
  obtain ⟨c4, X5, l4, g4, e4, k4⟩ := q3_step (n := 3) g3
  obtain ⟨c5, X6, l5, g5, e5, k5⟩ := q3_step (n := 2) g4
  obtain ⟨c6, X7, l6, g6, e6, k6⟩ := q3_step (n := 1) g5
  obtain ⟨c7, X8, l7, g7, e7, k7⟩ := q3_step (n := 0) g6
  have z : q3 0 X8 = 0 := by
    unfold q3
    rw [show pM4 0 = 0 from rfl, Nat.and_zero]
  refine ⟨c0, c1, c2, c3, c4, c5, c6, c7, q3 7 X1, q3 6 X2, q3 5 X3, q3 4 X4, q3 3 X5, q3 2 X6, q3 1 X7, ⟨l0, l1, l2, l3, l4, l5, l6, l7⟩, ⟨e0, e1, e2, e3, e4, e5, e6, by rw [e7, z, Nat.mul_zero, Nat.add_zero]⟩, ?_⟩
  rw [show (64 : Nat) = 8 + 8 * 7 from rfl, k0, show 8 * 7 = 8 + 8 * 6 from rfl, k1, show 8 * 6 = 8 + 8 * 5 from rfl, k2, show 8 * 5 = 8 + 8 * 4 from rfl, k3, show 8 * 4 = 8 + 8 * 3 from rfl, k4, show 8 * 3 = 8 + 8 * 2 from rfl, k5, show 8 * 2 = 8 + 8 * 1 from rfl, k6, show 8 * 1 = 8 + 8 * 0 from rfl, k7]
  rfl
abbrev NJ_ (x : Int64) : Nat := x.toBitVec.toNat
theorem nJ_and (x y : Int64) : NJ_ (x &&& y) = NJ_ x &&& NJ_ y := BitVec.toNat_and _ _
theorem nJ_lus (x : Int64) {k : Nat} (hk : k < 64) : NJ_ (lus x (nI k)) = NJ_ x / 2 ^ k := by
  unfold NJ_ lus
  show ((x.toUInt64 >>> ((nI k).toInt64.toUInt64 &&& Int64.toUInt64 63)).toBitVec).toNat = _
  rw [UInt64.toBitVec_shiftRight, BitVec.ushiftRight_eq', BitVec.toNat_ushiftRight, e_lus k hk, Nat.shiftRight_eq_div_pow]
  rfl
theorem nJ_add {x y : Int64} (h : NJ_ x + NJ_ y < 18446744073709551616) : NJ_ (x + y) = NJ_ x + NJ_ y := by
  show (x.toBitVec + y.toBitVec).toNat = _
  rw [BitVec.toNat_add]
  exact Nat.mod_eq_of_lt h
theorem nJ_sub {x y : Int64} (h : NJ_ y ≤ NJ_ x) : NJ_ (x - y) = NJ_ x - NJ_ y := by
  show (x.toBitVec - y.toBitVec).toNat = _
  exact BitVec.toNat_sub_of_le h
theorem pc_end {Y3 Y4 Y5 Y6 c0 c1 c2 c3 c4 c5 c6 c7 t1 t2 t3 t4 t5 t6 t7 : Nat} (l : c0 ≤ 8 ∧ c1 ≤ 8 ∧ c2 ≤ 8 ∧ c3 ≤ 8 ∧ c4 ≤ 8 ∧ c5 ≤ 8 ∧ c6 ≤ 8 ∧ c7 ≤ 8) (t : Y3 = c0 + 256 * t1 ∧ t1 = c1 + 256 * t2 ∧ t2 = c2 + 256 * t3 ∧ t3 = c3 + 256 * t4 ∧ t4 = c4 + 256 * t5 ∧ t5 = c5 + 256 * t6 ∧ t6 = c6 + 256 * t7 ∧ t7 = c7) (h4 : Y4 = Y3 + Y3 / 256) (h5 : Y5 = Y4 + Y4 / 65536) (h6 : Y6 = Y5 + Y5 / 4294967296) : Y6 % 128 = c0 + (c1 + (c2 + (c3 + (c4 + (c5 + (c6 + c7)))))) := by
  obtain ⟨l0, l1, l2, l3, l4, l5, l6, l7⟩ := l
  obtain ⟨e0, e1, e2, e3, e4, e5, e6, e7⟩ := t
  have a1 : Y3 / 256 = t1 := by clear h4 h5 h6 e1 e2 e3 e4 e5 e6 e7; omega
  rw [a1] at h4
  obtain ⟨u1, hu1⟩ : ∃ u, u = t1 + t2 := ⟨_, rfl⟩
  obtain ⟨u2, hu2⟩ : ∃ u, u = t2 + t3 := ⟨_, rfl⟩
  obtain ⟨u3, hu3⟩ : ∃ u, u = t3 + t4 := ⟨_, rfl⟩
  obtain ⟨u4, hu4⟩ : ∃ u, u = t4 + t5 := ⟨_, rfl⟩
  obtain ⟨u5, hu5⟩ : ∃ u, u = t5 + t6 := ⟨_, rfl⟩
  obtain ⟨u6, hu6⟩ : ∃ u, u = t6 + t7 := ⟨_, rfl⟩
  have v0 : Y4 = (c0 + c1) + 256 * u1 := by clear h5 h6 e2 e3 e4 e5 e6 e7; omega
  have v1 : u1 = (c1 + c2) + 256 * u2 := by clear h4 h5 h6 e0 e3 e4 e5 e6 e7 a1 v0; omega
  have v2 : u2 = (c2 + c3) + 256 * u3 := by clear h4 h5 h6 e0 e1 e4 e5 e6 e7 a1 v0 v1; omega
  have v3 : u3 = (c3 + c4) + 256 * u4 := by clear h4 h5 h6 e0 e1 e2 e5 e6 e7 a1 v0 v1 v2; omega
  have v4 : u4 = (c4 + c5) + 256 * u5 := by clear h4 h5 h6 e0 e1 e2 e3 e6 e7 a1 v0 v1 v2 v3; omega
  have v5 : u5 = (c5 + c6) + 256 * u6 := by clear h4 h5 h6 e0 e1 e2 e3 e4 e7 a1 v0 v1 v2 v3 v4; omega
  have v6 : u6 = (c6 + c7) + 256 * t7 := by clear h4 h5 h6 e0 e1 e2 e3 e4 e5 a1 v0 v1 v2 v3 v4 v5; omega
  clear e0 e1 e2 e3 e4 e5 e6 hu1 hu2 hu3 hu4 hu5 hu6 h4 a1
  have a2 : Y4 / 65536 = u2 := by clear h5 h6 v2 v3 v4 v5 v6; omega
  rw [a2] at h5
  obtain ⟨w1, hw1⟩ : ∃ u, u = u1 + u3 := ⟨_, rfl⟩
  obtain ⟨w2, hw2⟩ : ∃ u, u = u2 + u4 := ⟨_, rfl⟩
  obtain ⟨w3, hw3⟩ : ∃ u, u = u3 + u5 := ⟨_, rfl⟩
  obtain ⟨w4, hw4⟩ : ∃ u, u = u4 + u6 := ⟨_, rfl⟩
  have x0 : Y5 = (c0 + c1 + (c2 + c3)) + 256 * w1 := by clear h6 v1 v3 v4 v5 v6; omega
  have x1 : w1 = (c1 + c2 + (c3 + c4)) + 256 * w2 := by clear h5 h6 v0 v2 v4 v5 v6 x0; omega
  have x2 : w2 = (c2 + c3 + (c4 + c5)) + 256 * w3 := by clear h5 h6 v0 v1 v3 v5 v6 x0 x1; omega
  have x3 : w3 = (c3 + c4 + (c5 + c6)) + 256 * w4 := by clear h5 h6 v0 v1 v2 v4 v6 x0 x1 x2; omega
  have x4 : ∃ w5, w4 = (c4 + c5 + (c6 + c7)) + 256 * w5 := ⟨u5 + t7, by clear h5 h6 v0 v1 v2 v3 v5 x0 x1 x2 x3; omega⟩
  obtain ⟨w5, x4⟩ := x4
  clear v0 v1 v2 v3 v4 v5 v6 hw1 hw2 hw3 hw4 h5 a2 e7
  have a3 : Y5 / 4294967296 = w4 := by clear h6 x4; omega
  rw [a3] at h6
  clear a3 x1 x2 x3
  omega
theorem x_bitCount (x : Int64) : f_J13_bitCount_95d88 x = some (nI (cnt (fun k => bJ x k) 64)) := by
  have hX : NJ_ x < 256 ^ 8 := x.toBitVec.isLt
  obtain ⟨c0, c1, c2, c3, c4, c5, c6, c7, t1, t2, t3, t4, t5, t6, t7, l, t, ec⟩ := q3_8 hX
  have m1 : NJ_ (6148914691236517205 : Int64) = pM1 8 := by decide
  have m2 : NJ_ (3689348814741910323 : Int64) = pM2 8 := by decide
  have m4 : NJ_ (1085102592571150095 : Int64) = pM4 8 := by decide
  have hm2 : pM2 8 = 3689348814741910323 := by decide
  have hm4 : pM4 8 = 1085102592571150095 := by decide
  unfold f_J13_bitCount_95d88
  rw [z_l1, z_l2, z_l4, z_l8, z_l16, z_l32, z_bn, z_bn, z_bn, z_bn]
  generalize hy1 : x - (lus x (nI 1) &&& 6148914691236517205) = y1
  have n1 : NJ_ y1 = q1 8 (NJ_ x) := by
    rw [← hy1, nJ_sub, nJ_and, nJ_lus _ (by omega), m1]
    · rfl
    · rw [nJ_and, nJ_lus _ (by omega), m1]
      exact q_all _ _
  generalize hy2 : (y1 &&& 3689348814741910323) + (lus y1 (nI 2) &&& 3689348814741910323) = y2
  have r1 : ∀ z : Int64, NJ_ (z &&& 3689348814741910323) ≤ 3689348814741910323 := fun z => by
    rw [nJ_and, m2, hm2]
    exact Nat.and_le_right
  have n2 : NJ_ y2 = q2 8 (NJ_ x) := by
    rw [← hy2, nJ_add (by have a := r1 y1; have b := r1 (lus y1 (nI 2)); omega), nJ_and, nJ_and, nJ_lus _ (by omega), m2, n1]
    rfl
  have l2' : NJ_ y2 ≤ 7378697629483820646 := by
    rw [← hy2, nJ_add (by have a := r1 y1; have b := r1 (lus y1 (nI 2)); omega)]
    have a := r1 y1
    have b := r1 (lus y1 (nI 2))
    omega
  generalize hy3 : (y2 + lus y2 (nI 4)) &&& 1085102592571150095 = y3
  have hd4 : NJ_ (lus y2 (nI 4)) = NJ_ y2 / 16 := nJ_lus _ (by omega)
  have n3 : NJ_ y3 = q3 8 (NJ_ x) := by
    rw [← hy3, nJ_and, nJ_add (by rw [hd4]; omega), hd4, m4, n2]
    rfl
  have l3 : NJ_ y3 ≤ 1085102592571150095 := by
    rw [← hy3, nJ_and, m4, hm4]
    exact Nat.and_le_right
  generalize hy4 : y3 + lus y3 (nI 8) = y4
  have hd8 : NJ_ (lus y3 (nI 8)) = NJ_ y3 / 256 := nJ_lus _ (by omega)
  have n4 : NJ_ y4 = NJ_ y3 + NJ_ y3 / 256 := by rw [← hy4, nJ_add (by rw [hd8]; omega), hd8]
  have hd16 : NJ_ (lus y4 (nI 16)) = NJ_ y4 / 65536 := nJ_lus _ (by omega)
  generalize hy5 : y4 + lus y4 (nI 16) = y5
  have n5 : NJ_ y5 = NJ_ y4 + NJ_ y4 / 65536 := by rw [← hy5, nJ_add (by rw [hd16]; omega), hd16]
  have hd32 : NJ_ (lus y5 (nI 32)) = NJ_ y5 / 4294967296 := nJ_lus _ (by omega)
  generalize hy6 : y5 + lus y5 (nI 32) = y6
  have n6 : NJ_ y6 = NJ_ y5 + NJ_ y5 / 4294967296 := by rw [← hy6, nJ_add (by rw [hd32]; omega), hd32]
  rw [n3.symm] at t
  have e7 := pc_end l t n4 n5 n6
  have hc : cnt (fun k => bJ x k) 64 = c0 + (c1 + (c2 + (c3 + (c4 + (c5 + (c6 + c7)))))) := by
    rw [← ec]
    exact cnt_cong _ (fun k _ => rfl)
  rw [hc]
  refine congrArg some ?_
  apply Int32.toBitVec_inj.mp
  apply BitVec.eq_of_toNat_eq
  show (y6.toBitVec.signExtend 32 &&& (127 : Int32).toBitVec).toNat = (BitVec.ofNat 32 _).toNat
  rw [BitVec.signExtend_eq_setWidth_of_le _ (by omega)]
  rw [BitVec.toNat_and, BitVec.toNat_setWidth, BitVec.toNat_ofNat]
  have e127 : (127 : Int32).toBitVec.toNat = 2 ^ 7 - 1 := by decide
  rw [e127, Nat.and_two_pow_sub_one_eq_mod]
  have e8 : y6.toBitVec.toNat % 2 ^ 32 % 2 ^ 7 = NJ_ y6 % 128 := by
    show NJ_ y6 % 4294967296 % 128 = NJ_ y6 % 128
    omega
  rw [e8, e7]
  exact (Nat.mod_eq_of_lt (by omega)).symm
