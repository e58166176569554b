/-! the circuit's line; reading all -/
def RZ (v1 : Vs) : Option (Int32 × Vs) := o2 (f_X8_takes v1 4) (fun (r3 : Int32) (v4 : Vs) => if r3 = 0 then o2 (f_X8_fails v4 (-2 : Int32) (v4.1 14)) (fun (r43 : Int32) (v44 : Vs) => gd (isB r43) (some (r43, v44))) else o2 (f_X8_reads v4 (1 : Int32) (8 : Int32)) (fun (r7 : Int32) (v8 : Vs) => if r7 = 0 then gd (isB (0 : Int32)) (some ((0 : Int32), v8)) else gd (inb (0 : Int32) 440) (bn (sI v8 2 ((0 : Int32)).toNatClampNeg (v8.1 17)) (fun (v12 : Vs) => gd (inb (1 : Int32) 440) (bn (sI v12 2 ((1 : Int32)).toNatClampNeg (v12.1 17)) (fun (v14 : Vs) => o2 (f_X8_sign v14 (59 : Int32)) (fun (r15 : Int32) (v16 : Vs) => if r15 = 0 then gd (isB (0 : Int32)) (some ((0 : Int32), v16)) else lp f_X8_readsAll_L68 (fun _ => none) FU v16)))))))
theorem RZ_e (v : Vs) : f_X8_readsAll v = o1 (f_X8_plain v) RZ := rfl
theorem x_stop (vD vC vT : Vs) : lp f_X5_read_L51 (fun _ _ _ _ _ => none) FU (nI 0) (nI 0) vD vC vT = some (vD.1 4, vD, vC, vT) := by
  show f_X5_read_L51 (lp f_X5_read_L51 (fun _ _ _ _ _ => none) 999999) (nI 0) (nI 0) vD vC vT = _
  unfold f_X5_read_L51
  rw [z_jn, if_neg (show ¬ (800 : Int32) ≤ nI 0 by decide), if_pos (show nI 0 = (0 : Int32) from rfl)]
theorem JA.stop {v0 vD vC vT v : Vs} {c x : Int32} (hC : CF vD c x) (hF : FL v0 v c x) (hc : c ≠ 0) : JA v0 (lp f_X5_read_L51 (fun _ _ _ _ _ => none) FU (nI 0) (nI 0) vD vC vT) (some (nI 0, v)) := Or.inr ⟨vD, vC, vT, v, c, x, by rw [x_stop, hC.1], rfl, hC, hF, hc⟩
theorem j_first {B : Nat → Nat} {M : Nat} {v0 vD vM : Vs} (vC vT : Vs) (hD : CH B M (rn isSp B M 0) vD) (hMM : MH B M v0 PLr 0 vM) : JA v0 (o4 (f_X5_readCircuit vD vC vT) (fun (r : Int32) (d c t : Vs) => lp f_X5_read_L51 (fun _ _ _ _ _ => none) FU r (nI 0) d c t)) (RZ vM) := by
  have hM8 := hMM.1.2.1
  have hsM := rn_le isSp B (Nat.zero_le M)
  obtain ⟨v1, m1, M1, -⟩ := hMM.takes (i := 4) (by decide)
  obtain ⟨s, hs⟩ : ∃ s, s = rn isSp B M 0 := ⟨_, rfl⟩
  rw [← hs] at hD hsM m1 M1
  have ht := tend_le (B := B) hsM
  have eW := x_isWord hD.1 hD.2.1 hsM (i := 4) (by decide)
  unfold f_X5_readCircuit RZ
  by_cases cw : isW B M s 4 = true
  · rw [if_pos cw] at m1 M1 eW
    obtain ⟨vD1, e1, hD1⟩ := hD.adv hsM
    rw [eW, z_o1, if_neg (show ¬ nI 1 = (0 : Int32) by decide), e1, z_o1, m1, z_o2, if_neg (show ¬ nI 1 = (0 : Int32) by decide)]
    obtain ⟨a, ha⟩ : ∃ a, a = tend B M s := ⟨_, rfl⟩
    rw [← ha] at hD1 M1
    have hs1 := rn_le isSp B M1.2.2.1
    have hs1a := rn_ge isSp B M a
    obtain ⟨r1, r2⟩ := M1.reads (l := 1) (hi := 8) (by omega) (by omega)
    obtain ⟨s1, hs1d⟩ : ∃ s1, s1 = rn isSp B M a := ⟨_, rfl⟩
    rw [← hs1d] at hD1 hs1 hs1a r1 r2
    have ht1 := tend_le (B := B) hs1
    have d7 := hD1.2.1.2.1
    have hk4 : tkind B M s1 ≤ 4 := by unfold tkind; (repeat' split) <;> omega
    by_cases hk : tkind B M s1 = 2
    · have r2 := r2 hk
      obtain ⟨z1, z2⟩ := nm_lt (K := 9) hk (by omega)
      obtain ⟨y1, y2⟩ := nm_lt (K := 1) hk (by omega)
      have d9 := hD1.2.1.2.2.2 hk
      have hC5 := nmC_le B s1 (tend B M s1 - s1)
      obtain ⟨w, hwn⟩ : ∃ w, w = nmR B s1 (tend B M s1 - s1) := ⟨_, rfl⟩
      rw [← hwn] at r2 z1 z2 y1 y2
      rw [d7, hk, if_pos (show nI 2 = (2 : Int32) from rfl), z_jn]
      by_cases hw : 1 ≤ w ∧ w ≤ 8
      · obtain ⟨v2, e2, M2, u17, u18, u2⟩ := r2.1 hw
        rw [z2 (by omega)] at d9
        obtain ⟨vC2, ec, hC, hz⟩ := x_clearC vC hw.1 hw.2
        obtain ⟨vT2, et, hT⟩ := x_clearT vT hw.2
        obtain ⟨vD2, e3, hD2⟩ := hD1.adv hs1
        have c1 : ¬ w < 1 := by omega
        have e2' : f_X8_reads v1 (1 : Int32) (8 : Int32) = some (nI 1, v2) := e2
        have hG : GR (P1 w) vC2 vT2 := ⟨P1_WFc hw.1 hw.2, P1_WFt hw.2, hC, hT⟩
        have hS : SN2 (P1 w) := fun k h1 h2 => by
          obtain ⟨-, -, -, -, -, -, -, hh⟩ := P1_at (i := w) (by omega)
          rw [hh k (by omega)]
          unfold PLr
          rw [if_neg (by omega), if_pos (by omega)]
        have hZ : ZC (P1 w) vC2 := fun u h1 h2 => hz u h2
        have M3 := (M2.put 0 (nI w)).put 1 (nI w)
        have f17 : (sI v2 2 0 (nI w)).1 17 = nI w := by rw [z_sI0]; exact u17
        rw [d9, z_l1, ilf c1 (by omega), z_l8, ift hw.2 (by omega)]
        unfold f_X4_clear
        rw [ec, z_o1, et, z_o1, z_o2, e3, z_o1, e2, z_o2, if_neg (show ¬ nI 1 = (0 : Int32) by decide), show inb (0 : Int32) 440 = true by decide, z_gt, z_bn, u17, show ((0 : Int32)).toNatClampNeg = 0 from rfl, f17, show inb (nI 1) 440 = true by decide, z_gt, z_bn, show (nI 1).toNatClampNeg = 1 from rfl]
        rcases sem_end hD2 M3 with ⟨vD4, v4, a4, x1, x2, D4, M4, ha4⟩ | ⟨vD4, v4, x, x1, x2, C4, F4⟩
        · rw [x1, x2, z_o2, z_o2, if_neg (show ¬ nI 1 = (0 : Int32) by decide), show isB (nI 1) = true by decide, z_gt, z_o4]
          exact j_all hM8 801 a4 0 (P1 w) vD4 vC2 vT2 v4 FU FU (by omega) (by unfold FU; omega) (by unfold FU; omega) (Nat.zero_le _) D4 M4 hG hS hZ
        · rw [x1, x2, z_o2, z_o2, if_pos (show nI 0 = (0 : Int32) from rfl), show isB (nI 0) = true by decide, z_gt, z_o4]
          exact JA.stop C4 F4 (by decide)
      · obtain ⟨v2, e2, F2⟩ := r2.2 hw
        obtain ⟨v3, e3, C3⟩ := hD1.fail (-3)
        have e2' : f_X8_reads v1 (1 : Int32) (8 : Int32) = some (nI 0, v2) := e2
        have hwC : ¬ (1 ≤ nmC B s1 (tend B M s1 - s1) ∧ nmC B s1 (tend B M s1 - s1) ≤ 8) := by
          rintro ⟨q1, q2⟩
          have w9 : w < 9 := z1.mp (by omega)
          have e := z2 w9
          omega
        rw [e2', z_o2, if_pos (show nI 0 = (0 : Int32) from rfl), d9, z_l1]
        by_cases c1 : nmC B s1 (tend B M s1 - s1) < 1
        · rw [ilt c1 (by omega), e3, z_o2, show isB (nI 0) = true by decide, z_gt, z_o4]
          exact JA.stop C3 F2 (by decide)
        · rw [ilf c1 (by omega), z_l8, iff_ (show ¬ nmC B s1 (tend B M s1 - s1) ≤ 8 by omega) (by omega), e3, z_o2, show isB (nI 0) = true by decide, z_gt, z_o4]
          exact JA.stop C3 F2 (by decide)
    · obtain ⟨v2, e2, F2⟩ := r1 hk
      obtain ⟨v3, e3, C3⟩ := hD1.fail (-2)
      have e2' : f_X8_reads v1 (1 : Int32) (8 : Int32) = some (nI 0, v2) := e2
      rw [d7, z_l2, ief hk (by omega) (by omega), e2', z_o2, if_pos (show nI 0 = (0 : Int32) from rfl)]
      have e3' : f_X5_fail vD1 (-nI 2) = some (nI 0, v3) := e3
      rw [e3', z_o2, show isB (nI 0) = true by decide, z_gt, z_o4]
      exact JA.stop C3 F2 (by decide)
  · rw [if_neg cw] at m1 M1 eW
    obtain ⟨v2, e2, F2⟩ := h_fails M1.2.2.2.1 M1.2.2.2.2.2.2 (-2) (nI s)
    obtain ⟨v3, e3, C3⟩ := hD.fail (-2)
    rw [eW, z_o1, if_pos (show nI 0 = (0 : Int32) from rfl), e3, z_o2, show isB (nI 0) = true by decide, z_gt, z_o4, m1, z_o2, if_pos (show nI 0 = (0 : Int32) from rfl), M1.2.1, e2, z_o2, show isB (nI 0) = true by decide, z_gt]
    exact JA.stop C3 F2 (by decide)
theorem j_read {B : Nat → Nat} {M L : Nat} {vD vM : Vs} (vE vU : Vs) (hL : vD.1 1 = nI L) (hML : M ≤ L) (hL8 : L ≤ 800) (hB : ∀ i, i < M → vD.2.1 3 i = nI (B i) ∧ B i < 256) (hDM : DM B M vM) (h14 : vM.1 14 = nI 0) (h15 : vM.1 15 = nI 0) (h16 : vM.1 16 = im1) : JA vM (f_X5_read vD vE vU (nI M)) (f_X8_readsAll vM) := by
  obtain ⟨f, ef, hf⟩ := h_plain vM
  have hMM : MH B M vM PLr 0 (sA vM 2 f) := ⟨⟨hDM.1, hDM.2.1, fun i hi => by rw [z_sA3 _ _ _ (by decide)]; exact hDM.2.2 i hi⟩, h14, Nat.zero_le _, h15, h16, fun k hk => by rw [z_sA2]; exact hf k hk, rfl, rfl, rfl, rfl, by rw [z_sA3 _ _ _ (by decide)]⟩
  rw [RZ_e, ef, z_o1]
  obtain ⟨d5, hd5⟩ : ∃ d5, d5 = sF (sF (sF (sF (sF vD 5 (nI M)) 1 (0 : Int32)) 6 (0 : Int32)) 4 (0 : Int32)) 2 (-1 : Int32) := ⟨_, rfl⟩
  obtain ⟨vC6, ec, -, -⟩ := x_clearC vE (i := 1) (by omega) (by omega)
  obtain ⟨vT7, et, -⟩ := x_clearT vU (i := 1) (by omega)
  have k5 : d5.1 5 = nI M := by rw [hd5, z_sF2 _ _ _ (by decide), z_sF2 _ _ _ (by decide), z_sF2 _ _ _ (by decide), z_sF2 _ _ _ (by decide), z_sF1]
  have k1 : d5.1 1 = nI 0 := by rw [hd5, z_sF2 _ _ _ (by decide), z_sF2 _ _ _ (by decide), z_sF2 _ _ _ (by decide), z_sF1]; rfl
  have k6 : d5.1 6 = nI 0 := by rw [hd5, z_sF2 _ _ _ (by decide), z_sF2 _ _ _ (by decide), z_sF1]; rfl
  have k4 : d5.1 4 = nI 0 := by rw [hd5, z_sF2 _ _ _ (by decide), z_sF1]; rfl
  have k2 : d5.1 2 = im1 := by rw [hd5, z_sF1]; rfl
  have ka : d5.2 = vD.2 := by rw [hd5]; rfl
  have hDB : DB B M d5 := ⟨k5, by omega, fun i hi => by rw [ka]; exact hB i hi⟩
  obtain ⟨vD9, e9, t9, a2, aj⟩ := x_advance hDB k6 (Nat.zero_le _)
  have hD : CH B M (rn isSp B M 0) vD9 := by
    refine ⟨⟨by rw [aj 5 (by decide) (by decide) (by decide) (by decide)]; exact k5, by omega, fun i hi => by rw [a2]; exact hDB.2.2 i hi⟩, t9, ?_, ?_, ?_⟩
    · rw [aj 4 (by decide) (by decide) (by decide) (by decide)]; exact k4
    · rw [aj 2 (by decide) (by decide) (by decide) (by decide)]; exact k2
    · rw [aj 1 (by decide) (by decide) (by decide) (by decide)]; exact k1
  refine (j_first vC6 vT7 hD hMM).mono ?_ rfl
  unfold f_X5_read f_X4_clear
  have ec' : f_X0_clear vE (1 : Int32) = some vC6 := ec
  rw [z_bn, z_bn, z_bn, z_bn, z_bn, hL, ilf (show ¬ L < M by omega) (by omega), ← hd5, ec', z_o1, et, z_o1, z_o2, e9, z_o1]
  rfl
