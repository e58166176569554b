/-! reading a gate's operands, on both sides -/
def EY (r7 : Int32) (vM8 : Vs) (x4 : Int32) (v : Vs) : Option (Int32 × Vs) := gd (inb ((8 : Int32) + (vM8.2.1 2 ((1 : Int32)).toNatClampNeg)) 440) (bn (sI v 2 (((8 : Int32) + (vM8.2.1 2 ((1 : Int32)).toNatClampNeg))).toNatClampNeg r7) (fun (v2 : Vs) => gd (inb ((32 : Int32) + (vM8.2.1 2 ((1 : Int32)).toNatClampNeg)) 440) (bn (sI v2 2 (((32 : Int32) + (vM8.2.1 2 ((1 : Int32)).toNatClampNeg))).toNatClampNeg x4) (fun (v3 : Vs) => gd (inb (1 : Int32) 440) (gd (inb (1 : Int32) 440) (bn (sI v3 2 ((1 : Int32)).toNatClampNeg ((v3.2.1 2 ((1 : Int32)).toNatClampNeg) + (1 : Int32))) (fun (v4 : Vs) => gd (isB (1 : Int32)) (some ((1 : Int32), v4)))))))))
def WY (vM8 : Vs) (self : Int32 → Vs → Option (Int32 × Vs)) (x4 : Int32) (v : Vs) : Option (Int32 × Vs) := o2 (f_X8_readsWire v) (fun (r22 : Int32) (v2 : Vs) => if r22 = 0 then gd (isB (0 : Int32)) (some ((0 : Int32), v2)) else gd (inb (((56 : Int32) + ((4 : Int32) * (vM8.2.1 2 ((1 : Int32)).toNatClampNeg))) + x4) 440) (bn (sI v2 2 ((((56 : Int32) + ((4 : Int32) * (vM8.2.1 2 ((1 : Int32)).toNatClampNeg))) + x4)).toNatClampNeg (v2.1 17)) (fun (v3 : Vs) => self (x4 + (1 : Int32)) v3)))
theorem h_EY {B : Nat → Nat} {M a W K k : Nat} {v0 v vM8 : Vs} {q : Nat → Int32} (h : MH B M v0 q a v) (h8 : vM8.2.1 2 1 = nI W) (hW : W < 24) (q1 : q 1 = nI W) : ∃ v', EY (nI K) vM8 (nI k) v = some (nI 1, v') ∧ MH B M v0 (upd (upd (upd q (8 + W) (nI K)) (32 + W) (nI k)) 1 (nI (W + 1))) a v' := by
  have M2 := ((h.put (8 + W) (nI K)).put (32 + W) (nI k)).put 1 (nI (W + 1))
  refine ⟨_, ?_, M2⟩
  unfold EY
  have t1 : ((1 : Int32)).toNatClampNeg = 1 := rfl
  have e1 : (sI (sI v 2 (8 + W) (nI K)) 2 (32 + W) (nI k)).2.1 2 1 = nI W := by
    rw [z_sI2, z_u2 _ _ (by omega), z_sI2, z_u2 _ _ (by omega), h.2.2.2.2.2.1 1 (by omega)]
    exact q1
  rw [t1, h8, z_l8, nI_add, z_inb (show 8 + W < 440 by omega) (by omega), z_gt, z_bn, z_cl (by omega), z_l32, nI_add, z_inb (show 32 + W < 440 by omega) (by omega), z_gt, z_bn, z_cl (by omega), show inb (1 : Int32) 440 = true by decide, z_gt, z_gt, z_bn, e1, z_p1]
  rfl
theorem y_gate {K k : Nat} (hK : K ≤ 8) (hk : k ≤ 4) (vM8 : Vs) (self : Int32 → Vs → Option (Int32 × Vs)) (v : Vs) : f_X8_readsGate_L62 (nI K) vM8 self (nI k) v = if k < few K then WY vM8 self (nI k) v else if mst K ≤ k then EY (nI K) vM8 (nI k) v else o2 (f_X8_here v) (fun r50 v2 => o1 (f_X8_isDigit r50) (fun r53 => if r53 = 0 then EY (nI K) vM8 (nI k) v2 else WY vM8 self (nI k) v2)) := by
  obtain ⟨f1, f2, f3, f4⟩ := fewI_at (k := K) (by omega)
  have hm := mst_4 K
  have hfm : few K ≤ mst K := by unfold few mst; (repeat' split) <;> omega
  unfold f_X8_readsGate_L62
  rw [f3, z_o1, z_jn]
  by_cases c : k < few K
  · rw [ilt c (by omega), if_pos c]
    rfl
  · rw [ilf c (by omega), if_neg c, f4, z_o1, z_jn]
    by_cases d : mst K ≤ k
    · rw [ift d (by omega), if_pos d]
      rfl
    · rw [iff_ d (by omega), if_neg d]
      rfl
theorem j_ops {B : Nat → Nat} {M : Nat} {v0 vT : Vs} (hM : M ≤ 800) {q : Nat → Int32} {vC : Vs} (hG : GR q vC vT) (hS : SN2 q) (hZ : ZC q vC) (h16 : NW q < NI q + 16) {K : Nat} (hK : K ≤ 8) {vM8 : Vs} (h8 : vM8.2.1 2 1 = nI (NW q)) : ∀ m a k q' vD u vM (k1 k2 : Nat), 5 - k ≤ m → m ≤ k1 → m ≤ k2 → k ≤ mst K → CH B M (rn isSp B M a) vD → MH B M v0 q' a vM → GO q vC K k q' u → JC B M v0 a vT (lp (f_X5_readGate_L56 (nI K)) (fun _ _ _ _ => none) k1 (nI k) (nI k) vD u) (lp (f_X8_readsGate_L62 (nI K) vM8) (fun _ _ => none) k2 (nI k) vM)
  | 0, a, k, q', vD, u, vM, k1, k2, h, _, _, hkm, _, _, _ => by have := mst_4 K; omega
  | m + 1, a, k, q', vD, u, vM, k1, k2, h, g1', g2', hkm, hD, hMM, hO => by
    obtain ⟨k1, rfl⟩ : ∃ k, k1 = k + 1 := ⟨k1 - 1, by omega⟩
    obtain ⟨k2, rfl⟩ : ∃ k, k2 = k + 1 := ⟨k2 - 1, by omega⟩
    show JC B M v0 a vT (f_X5_readGate_L56 (nI K) (lp (f_X5_readGate_L56 (nI K)) (fun _ _ _ _ => none) k1) (nI k) (nI k) vD u) (f_X8_readsGate_L62 (nI K) vM8 (lp (f_X8_readsGate_L62 (nI K) vM8) (fun _ _ => none) k2) (nI k) vM)
    have hm := mst_4 K
    have hfm : few K ≤ mst K := by unfold few mst; (repeat' split) <;> omega
    obtain ⟨f1, f2, f3, f4⟩ := fewI_at (k := K) (by omega)
    obtain ⟨hw, ht, hC, hT⟩ := id hG
    have hnf := hw.nf
    have hWI := hw.2.1.2.1
    have hI1 := hw.1.2.1
    obtain ⟨g1, g2, g3, g4, g5, g6, g7, g8⟩ := id hO
    have haM := hMM.2.2.1
    have hsa := rn_ge isSp B M a
    have hsM := rn_le isSp B haM
    have q1 : q' 1 = nI (NW q) := by rw [g2 1 (by omega) (by omega)]; exact hw.2.1.1
    have u1 : u.1 1 = nI (NW q) := by rw [g3]; exact hC.1.2.1
    have hKc : (nI K).toNatClampNeg = K := z_cl (by omega)
    have iK : inb (nI K) 9 = true := z_inb (by omega) (by omega)
    obtain ⟨s, hs⟩ : ∃ s, s = rn isSp B M a := ⟨_, rfl⟩
    have hrr : rn isSp B M s = s := by rw [hs]; exact rn_rn _ _ _ _
    rw [← hs] at hD hsa hsM
    have d7 := hD.2.1.2.1
    have hk4 : tkind B M s ≤ 4 := by unfold tkind; (repeat' split) <;> omega
    rw [y_gate hK (by omega)]
    -- the end of the gate
    have finish : ∀ a2 v, MH B M v0 q' a2 v → rn isSp B M a2 = s → a ≤ a2 → few K ≤ k → (mst K ≤ k ∨ ¬ tkind B M s = 2) → JC B M v0 a vT (f_X5_readGate_L56 (nI K) (lp (f_X5_readGate_L56 (nI K)) (fun _ _ _ _ => none) k1) (nI k) (nI k) vD u) (EY (nI K) vM8 (nI k) v) := by
      intro a2 v hv ha2 haa hfk hor
      obtain ⟨v', e1, M1⟩ := h_EY (K := K) (k := k) hv h8 (by omega) q1
      obtain ⟨u', eE, G1, S1, Z1⟩ := hO.fin hG h16 hS hZ hK hfk hkm
      refine Or.inl ⟨vD, u', v', _, a2, ?_, e1, by rw [ha2]; exact hD, M1, G1, S1, Z1, haa⟩
      unfold f_X5_readGate_L56
      rw [iK, z_gt, z_jn, hKc, f1, f2, z_gt, ift hfk (by omega), eE, z_o1]
      rcases hor with c | c
      · rw [ift c (by omega)]
      · rw [d7, z_l2, ief c (by omega) (by omega)]
        split <;> rfl
    -- one operand more
    have wire : ∀ a2 v, MH B M v0 q' a2 v → rn isSp B M a2 = s → a ≤ a2 → k < mst K → (k < few K ∨ tkind B M s = 2) → JC B M v0 a vT (f_X5_readGate_L56 (nI K) (lp (f_X5_readGate_L56 (nI K)) (fun _ _ _ _ => none) k1) (nI k) (nI k) vD u) (WY vM8 (lp (f_X8_readsGate_L62 (nI K) vM8) (fun _ _ => none) k2) (nI k) v) := by
      intro a2 v hv ha2 haa hkk hor
      obtain ⟨w1, w2⟩ := hv.wire (W := NW q) q1 (by omega) hnf.2.1
      rw [ha2] at w1 w2
      have nmk : ¬ mst K ≤ k := by omega
      by_cases hk : tkind B M s = 2
      · obtain ⟨w3, w4⟩ := w2 hk
        obtain ⟨n, hn⟩ : ∃ n, n = nmC B s (tend B M s - s) := ⟨_, rfl⟩
        rw [← hn] at w3 w4
        have hn5 : n ≤ 100000 := by rw [hn]; exact nmC_le _ _ _
        have d9 : vD.1 9 = nI n := by rw [hD.2.1.2.2.2 hk, hn]
        have ht2 := tend_le (B := B) hsM
        by_cases hnW : n < NW q
        · obtain ⟨v1, e1, M1, u17, u18, u2⟩ := w3 hnW
          obtain ⟨u', eP, O1⟩ := hO.put hG h16 (by omega) hnW
          obtain ⟨vD2, eA, hD2⟩ := hD.adv hsM
          have M2 := M1.put (56 + 4 * NW q + k) (nI n)
          refine JC.mono (j_ops hM hG hS hZ h16 hK h8 m (tend B M s) (k + 1) _ vD2 u' _ k1 k2 (by omega) (by omega) (by omega) (by omega) hD2 M2 O1) (by omega) ?_ ?_
          · unfold f_X5_readGate_L56
            rw [iK, z_gt, z_jn, hKc, f2, iff_ nmk (by omega), d7, hk, if_pos (show nI 2 = (2 : Int32) from rfl), d9, u1, ilt hnW (by omega), eP, z_o1, eA, z_o1, z_p1]
          · unfold WY
            rw [e1, z_o2, if_neg (show ¬ nI 1 = (0 : Int32) by decide), show ((1 : Int32)).toNatClampNeg = 1 from rfl, h8, z_l4, z_mul, z_l56, nI_add, nI_add, z_inb (show 56 + 4 * NW q + k < 440 by omega) (by omega), z_gt, z_bn, z_cl (by omega), u17, z_p1]
        · obtain ⟨v1, e1, F1⟩ := w4 hnW
          obtain ⟨v2, e2, C2⟩ := hD.fail (-3)
          refine Or.inr ⟨v2, u, v1, -3, nI s, ?_, ?_, C2, F1, by decide⟩
          · unfold f_X5_readGate_L56
            rw [iK, z_gt, z_jn, hKc, f2, iff_ nmk (by omega), d7, hk, if_pos (show nI 2 = (2 : Int32) from rfl), d9, u1, ilf hnW (by omega), e2, z_o2]
            rfl
          · unfold WY
            rw [e1, z_o2, if_pos (show nI 0 = (0 : Int32) from rfl)]
            rfl
      · obtain ⟨v1, e1, F1⟩ := w1 hk
        obtain ⟨v2, e2, C2⟩ := hD.fail (-2)
        have hkf : ¬ few K ≤ k := by rcases hor with c | c; · omega
                                     · exact absurd c hk
        refine Or.inr ⟨v2, u, v1, -2, nI s, ?_, ?_, C2, F1, by decide⟩
        · unfold f_X5_readGate_L56
          have e2' : f_X5_fail vD (-nI 2) = some (nI 0, v2) := e2
          rw [iK, z_gt, z_jn, hKc, f2, iff_ nmk (by omega), d7, z_l2, ief hk (by omega) (by omega), z_gt, f1, iff_ hkf (by omega), e2', z_o2]
          rfl
        · unfold WY
          rw [e1, z_o2, if_pos (show nI 0 = (0 : Int32) from rfl)]
          rfl
    by_cases c : k < few K
    · rw [if_pos c]
      exact wire a vM hMM hs.symm (Nat.le_refl _) (by omega) (Or.inl c)
    · rw [if_neg c]
      by_cases d : mst K ≤ k
      · rw [if_pos d]
        exact finish a vM hMM hs.symm (Nat.le_refl _) (by omega) (Or.inl d)
      · rw [if_neg d]
        obtain ⟨v4, e4, M4, -⟩ := hMM.here
        rw [← hs] at e4 M4
        rw [e4, z_o2, tk_dg (fun i hi => (M4.1.2.2 i hi).2), z_o1]
        by_cases hk : tkind B M s = 2
        · rw [if_pos hk, if_neg (show ¬ nI 1 = (0 : Int32) by decide)]
          exact wire s v4 M4 hrr hsa (by omega) (Or.inr hk)
        · rw [if_neg hk, if_pos (show nI 0 = (0 : Int32) from rfl)]
          exact finish s v4 M4 hrr hsa (by omega) (Or.inr hk)
theorem j_gate {B : Nat → Nat} {M s a : Nat} {v0 vD vC vT vM : Vs} {q : Nat → Int32} (hs : s ≤ M) (ha : a = tend B M s) (hD : CH B M s vD) (hMM : MH B M v0 q a vM) (hG : GR q vC vT) (hS : SN2 q) (hZ : ZC q vC) : JC B M v0 a vT (f_X5_readGate vD vC vT) (f_X8_readsGate vM (nI s)) := by
  obtain ⟨hw, ht, hC, hT⟩ := id hG
  have hnf := hw.nf
  have hWI := hw.2.1.2.1
  have hW2 := hw.2.1.2.2
  have hM := hMM.1.2.1
  have r0 : vM.2.1 2 0 = nI (NI q) := by rw [hMM.2.2.2.2.2.1 0 (by omega)]; exact hw.1.1
  have r1 : vM.2.1 2 1 = nI (NW q) := by rw [hMM.2.2.2.2.2.1 1 (by omega)]; exact hw.2.1.1
  have t0 : ((0 : Int32)).toNatClampNeg = 0 := rfl
  have t1 : ((1 : Int32)).toNatClampNeg = 1 := rfl
  have i0 : inb (0 : Int32) 440 = true := by decide
  have i1 : inb (1 : Int32) 440 = true := by decide
  by_cases h16 : NW q - NI q = 16
  · obtain ⟨v2, e2, F2⟩ := h_fails hMM.2.2.2.1 hMM.2.2.2.2.2.2 (-6) (nI s)
    obtain ⟨v3, e3, C3⟩ := hD.fail (-6)
    refine Or.inr ⟨v3, vC, v2, -6, nI s, ?_, ?_, C3, F2, by decide⟩
    · have full : f_X0_isFullOfGates vC = some (nI 1) := by
        unfold f_X0_isFullOfGates
        rw [z_jn, hC.1.1, hC.1.2.1, z_sub hWI, h16, z_l16, ilf (by omega) (by omega)]
        rfl
      unfold f_X5_readGate
      rw [full, z_o1, if_neg (show ¬ nI 1 = (0 : Int32) by decide), e3, z_o2]
      rfl
    · unfold f_X8_readsGate
      rw [i1, i0, z_gt, z_gt, t0, t1, r0, r1, z_sub hWI, h16, if_pos (show nI 16 = (16 : Int32) from rfl), e2, z_o2]
      rfl
  · have h16' : NW q < NI q + 16 := by omega
    obtain ⟨vD1, e1, hD1⟩ := hD.adv hs
    rw [← ha] at hD1
    have hs1 := rn_le isSp B hMM.2.2.1
    have hs1a := rn_ge isSp B M a
    obtain ⟨v1, m1, M1, -⟩ := hMM.here
    obtain ⟨v2, m2, M2⟩ := M1.kind
    obtain ⟨s1, hs1d⟩ : ∃ s1, s1 = rn isSp B M a := ⟨_, rfl⟩
    have hrr : rn isSp B M s1 = s1 := by rw [hs1d]; exact rn_rn _ _ _ _
    rw [← hs1d] at hD1 hs1 hs1a m1 m2 M2
    rw [hrr] at m2 M2
    have ek := hD1.kind hs1
    have ht1 := tend_le (B := B) hs1
    have full : f_X0_isFullOfGates vC = some (nI 0) := by
      unfold f_X0_isFullOfGates
      rw [z_jn, hC.1.1, hC.1.2.1, z_sub hWI, z_l16, ilt (by omega) (by omega)]
      rfl
    have preY : f_X8_readsGate vM (nI s) = (if kwI B M s1 = (-1 : Int32) then o2 (f_X8_fails v2 (-2 : Int32) (v2.1 14)) (fun (r56 : Int32) (vM_57 : Vs) => gd (isB r56) (some (r56, vM_57))) else gd (inb (1 : Int32) 440) (lp (f_X8_readsGate_L62 (kwI B M s1) v2) (fun _ _ => none) FU (0 : Int32) v2)) := by
      unfold f_X8_readsGate
      rw [i1, i0, z_gt, z_gt, t0, t1, r0, r1, z_sub hWI, z_l16, ief h16 (by omega) (by omega), m1, z_o2, m2, z_o2]
    rw [preY]
    rcases kwI_or B M s1 with hk | ⟨K, hK9, hk⟩
    · rw [hk] at ek M2 ⊢
      rw [if_pos rfl] at M2
      obtain ⟨v3, e3, F3⟩ := h_fails M2.2.2.2.1 M2.2.2.2.2.2.2 (-2) (nI s1)
      obtain ⟨v4, e4, C4⟩ := hD1.fail (-2)
      refine Or.inr ⟨v4, vC, v3, -2, nI s1, ?_, ?_, C4, F3, by decide⟩
      · unfold f_X5_readGate
        rw [full, z_o1, if_pos (show nI 0 = (0 : Int32) from rfl), e1, z_o1, ek, z_o1, if_neg (show ¬ (0 : Int32) ≤ im1 by decide), e4, z_o2]
        rfl
      · rw [if_pos (show im1 = (-1 : Int32) from rfl), M2.2.1, e3, z_o2]
        rfl
    · rw [hk] at ek M2 ⊢
      have nk : ¬ nI K = im1 := fun z => by rw [z_pos' (by omega)] at z; exact z
      rw [if_neg nk] at M2
      obtain ⟨u, eS, O1⟩ := GO.start hG h16' K
      obtain ⟨vD2, e2, hD2⟩ := hD1.adv hs1
      refine JC.mono (j_ops hM hG hS hZ h16' (show K ≤ 8 by omega) (vM8 := v2) (by rw [M2.2.2.2.2.2.1 1 (by omega)]; exact hw.2.1.1) 5 (tend B M s1) 0 q vD2 u v2 FU FU (by omega) (by unfold FU; omega) (by unfold FU; omega) (Nat.zero_le _) hD2 M2 O1) (by omega) ?_ ?_
      · unfold f_X5_readGate
        rw [full, z_o1, if_pos (show nI 0 = (0 : Int32) from rfl), e1, z_o1, ek, z_o1, z_l0, ift (Nat.zero_le _) (by omega), eS, z_o1, e2, z_o1]
      · rw [if_neg (show ¬ nI K = (-1 : Int32) from nk), i1, z_gt]
        rfl
