/-! statements of a known text -/
def opT (o : Nat → Nat) : Nat → List Nat
  | 0 => []
  | k + 1 => opT o k ++ [32] ++ [48 + o k]
def gtT (K n : Nat) (o : Nat → Nat) : List Nat := wdS 11 ++ wdS (nmS K) ++ opT o n ++ [59]
theorem opT_len (o : Nat → Nat) : ∀ n, (opT o n).length = 2 * n
  | 0 => rfl
  | n + 1 => by
    show (opT o n ++ [32] ++ [48 + o n]).length = _
    rw [List.length_append, List.length_append, opT_len o n]
    show 2 * n + 1 + 1 = 2 * (n + 1)
    omega
theorem opT_pc {B : Nat → Nat} {s : Nat} {o : Nat → Nat} : ∀ n, PC B s (opT o n) → ∀ k, k < n → B (s + 2 * k) = 32 ∧ B (s + 2 * k + 1) = 48 + o k
  | 0, _, k, hk => by omega
  | n + 1, h, k, hk => by
    have h : PC B s (opT o n ++ [32] ++ [48 + o n]) := h
    have h1 := h.app
    have h2 := h1.1.app
    have e1 := h1.2.one
    have e2 := h2.2.one
    rw [List.length_append, opT_len] at e1
    rw [opT_len] at e2
    rcases Nat.lt_or_ge k n with q | q
    · exact opT_pc n h2.1 k q
    · obtain rfl : k = n := by omega
      exact ⟨e2, e1⟩
def opQ (q : Nat → Int32) (o : Nat → Nat) : Nat → Nat → Int32
  | 0 => q
  | k + 1 => upd (opQ q o k) (56 + 4 * NW q + k) (nI (o k))
def gtQ (q : Nat → Int32) (K n : Nat) (o : Nat → Nat) : Nat → Int32 := upd (upd (upd (opQ q o n) (8 + NW q) (nI K)) (32 + NW q) (nI n)) 1 (nI (NW q + 1))
theorem full_g {q : Nat → Int32} {vC vT : Vs} (hG : GR q vC vT) (h16 : NW q < NI q + 16) : f_X0_isFullOfGates vC = some (nI 0) := by
  obtain ⟨hw, ht, hC, hT⟩ := hG
  have hnf := hw.nf
  have e : vC.1 1 - vC.1 0 = nI (NW q - NI q) := by rw [hC.1.1, hC.1.2.1, z_sub hw.2.1.2.1]
  unfold f_X0_isFullOfGates
  rw [z_jn, e, z_l16, ilt (by omega) (by omega)]
  rfl
set_option maxHeartbeats 1000000 in
theorem p_gate {q : Nat → Int32} {vC vT : Vs} (hG : GR q vC vT) (h16 : NW q < NI q + 16) (hS : SN2 q) (hZ : ZC q vC) {B : Nat → Nat} {M s : Nat} {v : Vs} (h : CH B M s v) {K n : Nat} {o : Nat → Nat} (hK : K < 9) (h1 : few K ≤ n) (h2 : n ≤ mst K) (ho : ∀ k, k < n → o k < NW q ∧ o k < 10) (hP : PC B s (gtT K n o)) (hM : s + (gtT K n o).length ≤ M) (hne : B (s + (gtT K n o).length) ≠ 32) :
    ∃ v' vC', f_X5_readStatement v vC vT = some (nI 1, v', vC', vT) ∧ CH B M (s + (gtT K n o).length) v' ∧ GR (gtQ q K n o) vC' vT ∧ SN2 (gtQ q K n o) ∧ ZC (gtQ q K n o) vC' := by
  have hfew := few_1 K
  have hmst := mst_4 K
  obtain ⟨kn1, kn2, -⟩ := kwN_nmS K hK
  have hLen : (gtT K n o).length = 5 + wl (kwN K) + 2 * n + 1 := by
    unfold gtT
    rw [List.length_append, List.length_append, List.length_append, opT_len, kn1, wl_len kn2]
    rfl
  unfold gtT at hP
  have q1 := hP.app
  have q2 := q1.1.app
  have q3 := q2.1.app
  have h59 := q1.2.one
  have hop := opT_pc n q2.2
  have hwd := q3.2
  have l11 : (wdS 11).length = 5 := by decide +kernel
  have hgw : PC B s (wdS 10) ∧ B (s + 4) = 32 := by
    have e : wdS 11 = wdS 10 ++ [32] := by decide +kernel
    have hh := q3.1
    rw [e] at hh
    have := hh.app
    exact ⟨this.1, this.2.one⟩
  rw [List.length_append, List.length_append, opT_len, l11, kn1, wl_len kn2] at h59
  rw [List.length_append, l11, kn1, wl_len kn2] at hop
  rw [l11, kn1] at hwd
  have hl10 : wl 10 = 4 := rfl
  obtain ⟨wk1, wk2, wk3, wk4⟩ := words (kwN K) kn2
  rw [hLen] at hM hne ⊢
  obtain ⟨iw, vA, eA, hA⟩ := h.word (i := 10) (by decide) (by rw [hl10]; omega) hgw.1 (by rw [hl10, hgw.2]; exact lt_sp.1)
  -- after the word gate: the kind's word
  have hb5 : B (s + 5) ≠ 32 := by
    have := hwd 0 (by rw [wl_len kn2]; omega)
    rw [wdS_wc, Nat.add_zero] at this
    have := (wk4 0 (by omega)).2.1
    omega
  rw [hl10, sp_1 (by omega) hgw.2 hb5] at hA
  have hsp : B (s + 5 + wl (kwN K)) = 32 := by
    have := (hop 0 (by omega)).1
    rw [Nat.mul_zero, Nat.add_zero, ← Nat.add_assoc] at this
    exact this
  obtain ⟨iw2, vB, eB, hB⟩ := hA.word (i := kwN K) kn2 (by omega) hwd (by rw [hsp]; exact lt_sp.1)
  have hKI := kw_is hK iw2
  have hd0 : B (s + 5 + wl (kwN K) + 1) = 48 + o 0 := by
    have := (hop 0 (by omega)).2
    rw [Nat.mul_zero, Nat.add_zero, ← Nat.add_assoc] at this
    exact this
  rw [sp_1 (by omega) hsp (by omega)] at hB
  obtain ⟨u0, eu0, hu0⟩ := GO.start hG h16 K
  have hfin : Ok (f_X5_readGate v vC vT) (fun r => r.1 = nI 1 ∧ CH B M (s + (5 + wl (kwN K) + 2 * n + 1)) r.2.1 ∧ GR (gtQ q K n o) r.2.2 vT ∧ SN2 (gtQ q K n o) ∧ ZC (gtQ q K n o) r.2.2) := by
    unfold f_X5_readGate
    rw [full_g hG h16, z_o1, if_pos (show nI 0 = (0 : Int32) from rfl), eA, z_o1, hA.kind (by omega), hKI, z_o1, if_pos (show (0 : Int32) ≤ nI K from nI_le (Nat.zero_le _) (by omega)), eu0, z_o1, eB, z_o1]
    refine zl4 (I := fun m x3 x4 vD u => ∃ k, x3 = nI k ∧ x4 = nI k ∧ k ≤ n ∧ CH B M (if k < n then s + 5 + wl (kwN K) + 2 * k + 1 else s + 5 + wl (kwN K) + 2 * n) vD ∧ GO q vC K k (opQ q o k) u ∧ m = n - k) ?_ FU n _ _ _ _ (by unfold FU; omega) ⟨0, rfl, rfl, by omega, by rw [if_pos (by omega)]; exact hB, hu0, by omega⟩
    rintro m x3 x4 vD u self ⟨k, rfl, rfl, hle, hD, hu, rfl⟩ ih
    unfold f_X5_readGate_L56
    have hin : inb (nI K) 9 = true := z_inb (by omega) (by omega)
    have hnw : NW q ≤ 24 := hG.1.nf.2.1
    have hu1 : u.1 1 = nI (NW q) := by rw [hu.2.2.1]; exact hG.2.2.1.1.2.1
    refine ok_gd hin (ok_jn ?_)
    rw [z_cl (by omega), (few_I K hK).1, (few_I K hK).2]
    by_cases hb : n ≤ k
    · obtain rfl : k = n := by omega
      rw [if_neg (by omega)] at hD
      obtain ⟨t7, vE, eE, hE⟩ := hD.end3 (by omega) (by rw [← h59]; congr 1; omega)
      rw [sp_0 (by intro z; apply hne; rw [← z]; congr 1; omega)] at hE
      obtain ⟨uF, eF, g1, g2, g3⟩ := GO.fin hG h16 hS hZ hu (by omega) h1 h2
      have hend : Ok (gd (inb (nI K) 9) (if nI (few K) ≤ nI k then o1 (f_X0_endGate u) (fun (vC_25 : Vs) => o2 (f_X5_readSemicolon vD) (fun (r27 : Int32) (vD_28 : Vs) => gd (isB r27) (some (r27, vD_28, vC_25)))) else o2 (f_X5_fail vD (-2 : Int32)) (fun (r34 : Int32) (vD_35 : Vs) => gd (isB r34) (some (r34, vD_35, u))))) (fun r => r.1 = nI 1 ∧ CH B M (s + (5 + wl (kwN K) + 2 * k + 1)) r.2.1 ∧ GR (gtQ q K k o) r.2.2 vT ∧ SN2 (gtQ q K k o) ∧ ZC (gtQ q K k o) r.2.2) := by
        refine ok_gd hin ?_
        rw [ift h1 (by omega), eF, z_o1, eE, z_o2]
        refine ok_gd (by decide) (ok_some ⟨rfl, ?_, g1, g2, g3⟩)
        have e : s + (5 + wl (kwN K) + 2 * k + 1) = s + 5 + wl (kwN K) + 2 * k + 1 := by omega
        rw [e]
        exact hE
      by_cases hm : mst K ≤ k
      · rw [ift hm (by omega)]
        exact hend
      · rw [iff_ hm (by omega), t7, if_neg (by decide)]
        exact hend
    · rw [if_pos (by omega)] at hD
      rw [iff_ (by omega) (by omega)]
      have hk2 := hop k (by omega)
      have hk3 : B (s + 5 + wl (kwN K) + 2 * k + 1 + 1) = if k + 1 < n then 32 else 59 := by
        by_cases hk1 : k + 1 < n
        · rw [if_pos hk1, ← (hop (k + 1) hk1).1]
          congr 1; omega
        · rw [if_neg hk1, ← h59]
          congr 1; omega
      have hdd : B (s + 5 + wl (kwN K) + 2 * k + 1) = 48 + o k := by
        rw [← hk2.2]
        congr 1; omega
      have hoo := ho k (by omega)
      obtain ⟨t7, t9, vE, eE, hE⟩ := hD.dig hoo.2 (by omega) hdd (by rw [hk3]; split; exact lt_sp.2.2.1; exact lt_sp.2.2.2)
      rw [t7, if_pos (show nI 2 = (2 : Int32) from rfl), t9, hu1, ilt hoo.1 (by omega)]
      obtain ⟨u2, eu2, hu2⟩ := GO.put hG h16 hu (by omega) hoo.1
      rw [eu2, z_o1, eE, z_o1, z_l1, nI_add]
      refine ih _ _ _ _ _ (by omega) ⟨k + 1, rfl, rfl, by omega, ?_, hu2, rfl⟩
      by_cases hk1 : k + 1 < n
      · rw [if_pos hk1] at hk3 ⊢
        have hd2 := (hop (k + 1) hk1).2
        have e2 : s + 5 + wl (kwN K) + 2 * (k + 1) + 1 = s + 5 + wl (kwN K) + 2 * k + 1 + 1 + 1 := by omega
        rw [sp_1 (by omega) hk3 (by intro z; rw [show s + 5 + wl (kwN K) + 2 * k + 1 + 1 + 1 = s + (5 + wl (kwN K)) + 2 * (k + 1) + 1 by omega, hd2] at z; omega)] at hE
        rw [e2]
        exact hE
      · rw [if_neg hk1] at hk3 ⊢
        rw [sp_0 (by rw [hk3]; decide)] at hE
        have e2 : s + 5 + wl (kwN K) + 2 * n = s + 5 + wl (kwN K) + 2 * k + 1 + 1 := by omega
        rw [e2]
        exact hE
  obtain ⟨⟨a, b, c⟩, e1, e2, e3, e4, e5, e6⟩ := hfin
  refine ⟨b, c, ?_, e3, e4, e5, e6⟩
  have hx := x_isWord h.1 h.2.1 (by omega) (i := 10) (by decide)
  unfold f_X5_readStatement
  rw [hx, iw, z_o1, if_neg (by decide), e1, z_o3, show a = nI 1 from e2]
  rfl
