/-! a statement, and all of them, on both sides -/
/-- both at the end of a piece: the class at the token, the reference before it; the semicolon -/
theorem sem_end {B : Nat → Nat} {M a : Nat} {v0 vD vM : Vs} {q : Nat → Int32} (hD : CH B M (rn isSp B M a) vD) (hM : MH B M v0 q a vM) : (∃ vD2 vM2 a2, f_X5_readSemicolon vD = some (nI 1, vD2) ∧ f_X8_sign vM (59 : Int32) = some (nI 1, vM2) ∧ CH B M (rn isSp B M a2) vD2 ∧ MH B M v0 q a2 vM2 ∧ a < a2) ∨ (∃ vD2 vM2 x, f_X5_readSemicolon vD = some (nI 0, vD2) ∧ f_X8_sign vM (59 : Int32) = some (nI 0, vM2) ∧ CF vD2 (-2) x ∧ FL v0 vM2 (-2) x) := by
  have hsM := rn_le isSp B hM.2.2.1
  have hsa := rn_ge isSp B M a
  obtain ⟨s1, s2⟩ := hD.semi hsM
  obtain ⟨m1, m2⟩ := hM.sign
  by_cases hk : tkind B M (rn isSp B M a) = 3
  · obtain ⟨vD2, e1, D2⟩ := s1 hk
    obtain ⟨vM2, e2, M2⟩ := m1 hk
    exact Or.inl ⟨vD2, vM2, _, e1, e2, D2, M2, by rw [tk3.2 hk]; omega⟩
  · obtain ⟨vD2, e1, D2⟩ := s2 hk
    obtain ⟨vM2, e2, M2⟩ := m2 hk
    exact Or.inr ⟨vD2, vM2, _, e1, e2, D2, M2⟩
def JS (B : Nat → Nat) (M : Nat) (v0 : Vs) (a : Nat) (X : Option (Int32 × Vs × Vs × Vs)) (Y : Option (Int32 × Vs)) : Prop :=
  (∃ vD' vC' vT' vM' q' a', X = some (nI 1, vD', vC', vT') ∧ Y = some (nI 1, vM') ∧ CH B M (rn isSp B M a') vD' ∧ MH B M v0 q' a' vM' ∧ GR q' vC' vT' ∧ SN2 q' ∧ ZC q' vC' ∧ a < a') ∨
  (∃ vD' vC' vT' vM' c x, X = some (nI 0, vD', vC', vT') ∧ Y = some (nI 0, vM') ∧ CF vD' c x ∧ FL v0 vM' c x ∧ c ≠ 0)
/-- the reference's line behind its statement -/
def LE (t : Int32) (v : Vs) : Option (Int32 × Vs) := jn (fun (t8 : Int32) (v9 : Vs) => gd (isB t8) (some (t8, v9))) (fun k10 => jn (fun (v16 : Vs) => k10 (0 : Int32) v16) (fun k17 => if t = 0 then k17 v else o2 (f_X8_sign v (59 : Int32)) (fun (r21 : Int32) (v22 : Vs) => if r21 = 0 then k17 v22 else k10 (1 : Int32) v22)))
theorem LE_0 (v : Vs) : LE (nI 0) v = some (nI 0, v) := rfl
theorem LE_1 {v v' : Vs} {t : Nat} (ht : t ≤ 1) (e : f_X8_sign v (59 : Int32) = some (nI t, v')) : LE (nI 1) v = some (nI t, v') := by
  unfold LE
  rw [z_jn, z_jn, if_neg (show ¬ nI 1 = (0 : Int32) by decide), e, z_o2]
  have : t = 0 ∨ t = 1 := by omega
  rcases this with rfl | rfl <;> rfl
theorem JC.stm {B : Nat → Nat} {M : Nat} {v0 : Vs} {s b : Nat} {vT : Vs} {X : Option (Int32 × Vs × Vs)} {Y : Option (Int32 × Vs)} (h : JC B M v0 b vT X Y) (hb : s ≤ b) : JS B M v0 s (o3 X (fun r vD vC => gd (isB r) (some (r, vD, vC, vT)))) (o2 Y (fun r v => LE r v)) := by
  rcases h with ⟨vD', vC', vM', q', a', rfl, rfl, hD, hM, hG, hS, hZ, hab⟩ | ⟨vD', vC', vM', c, x, rfl, rfl, hC, hF, hc⟩
  · rcases sem_end hD hM with ⟨vD2, vM2, a2, e1, e2, D2, M2, h2⟩ | ⟨vD2, vM2, x, e1, e2, D2, M2⟩
    · refine Or.inl ⟨vD2, vC', vT, vM2, q', a2, ?_, ?_, D2, M2, hG, hS, hZ, by omega⟩
      · rw [e1]; rfl
      · rw [z_o2]; exact LE_1 (by omega) e2
    · refine Or.inr ⟨vD2, vC', vT, vM2, -2, x, ?_, ?_, D2, M2, by decide⟩
      · rw [e1]; rfl
      · rw [z_o2]; exact LE_1 (by omega) e2
  · exact Or.inr ⟨vD', vC', vT, vM', c, x, rfl, rfl, hC, hF, hc⟩
theorem JT.stm {B : Nat → Nat} {M : Nat} {v0 : Vs} {s b : Nat} {vC : Vs} {X : Option (Int32 × Vs × Vs)} {Y : Option (Int32 × Vs)} (h : JT B M v0 b vC X Y) (hb : s ≤ b) : JS B M v0 s (o3 X (fun r vD vT => gd (isB r) (some (r, vD, vC, vT)))) (o2 Y (fun r v => LE r v)) := by
  rcases h with ⟨vD', vC', vM', q', a', rfl, rfl, hD, hM, hG, hS, hZ, hab⟩ | ⟨vD', vC', vM', c, x, rfl, rfl, hC, hF, hc⟩
  · rcases sem_end hD hM with ⟨vD2, vM2, a2, e1, e2, D2, M2, h2⟩ | ⟨vD2, vM2, x, e1, e2, D2, M2⟩
    · refine Or.inl ⟨vD2, vC, vC', vM2, q', a2, ?_, ?_, D2, M2, hG, hS, hZ, by omega⟩
      · rw [e1]; rfl
      · rw [z_o2]; exact LE_1 (by omega) e2
    · refine Or.inr ⟨vD2, vC, vC', vM2, -2, x, ?_, ?_, D2, M2, by decide⟩
      · rw [e1]; rfl
      · rw [z_o2]; exact LE_1 (by omega) e2
  · exact Or.inr ⟨vD', vC, vC', vM', c, x, rfl, rfl, hC, hF, hc⟩
theorem JS.mono {B : Nat → Nat} {M : Nat} {v0 : Vs} {a : Nat} {X X' : Option (Int32 × Vs × Vs × Vs)} {Y Y' : Option (Int32 × Vs)} (h : JS B M v0 a X Y) (hX : X' = X) (hY : Y' = Y) : JS B M v0 a X' Y' := by
  rw [hX, hY]
  exact h
theorem j_line {B : Nat → Nat} {M s : Nat} {v0 vD vC vT vM : Vs} {q : Nat → Int32} (hss : rn isSp B M s = s) (hD : CH B M s vD) (hMM : MH B M v0 q s vM) (hG : GR q vC vT) (hS : SN2 q) (hZ : ZC q vC) : JS B M v0 s (f_X5_readStatement vD vC vT) (f_X8_readsLine vM) := by
  have hs := hMM.2.2.1
  have h14 := hMM.2.1
  have ht := tend_le (B := B) hs
  have e := fun i (hi : i ∈ WS) => x_isWord hD.1 hD.2.1 hs hi
  have X : f_X5_readStatement vD vC vT = if isW B M s 6 = true then o3 (f_X5_readGate vD vC vT) (fun r vD' vC' => gd (isB r) (some (r, vD', vC', vT))) else if isW B M s 17 = true then o3 (f_X5_readOutputs vD vC vT) (fun r vD' vC' => gd (isB r) (some (r, vD', vC', vT))) else if isW B M s 2 = true then o3 (f_X5_readBridge vD vC vT) (fun r vD' vC' => gd (isB r) (some (r, vD', vC', vT))) else if isW B M s 19 = true then o3 (f_X5_readTest vD vC vT) (fun r vD' vT' => gd (isB r) (some (r, vD', vC, vT'))) else o2 (f_X5_fail vD (-2 : Int32)) (fun r vD' => gd (isB r) (some (r, vD', vC, vT))) := by
    unfold f_X5_readStatement
    rw [kstep (e 6 (by decide)), kstep (e 17 (by decide)), kstep (e 2 (by decide)), kstep (e 19 (by decide))]
  have Y : f_X8_readsLine vM = o2 (f_X8_takes vM 6) (fun r1 v2 => if r1 = 0 then o2 (f_X8_takes v2 17) (fun r27 v28 => if r27 = 0 then o2 (f_X8_takes v28 2) (fun r31 v32 => if r31 = 0 then o2 (f_X8_takes v32 19) (fun r35 v36 => if r35 = 0 then o2 (f_X8_fails v36 (-2 : Int32) (v36.1 14)) (fun r v => LE r v) else o2 (f_X8_readsTest v36 (vM.1 14)) (fun r v => LE r v)) else o2 (f_X8_readsBridge v32 (vM.1 14)) (fun r v => LE r v)) else o2 (f_X8_readsOutputs v28) (fun r v => LE r v)) else o2 (f_X8_readsGate v2 (vM.1 14)) (fun r v => LE r v)) := rfl
  rw [X, Y, h14]
  obtain ⟨v1, m1, M1, -⟩ := hMM.takes (i := 6) (by decide)
  rw [hss] at m1 M1
  by_cases c1 : isW B M s 6 = true
  · rw [if_pos c1] at m1 M1 ⊢
    rw [m1, z_o2, if_neg (show ¬ nI 1 = (0 : Int32) by decide)]
    exact (j_gate hs rfl hD M1 hG hS hZ).stm ht.1
  rw [if_neg c1] at m1 M1 ⊢
  rw [m1, z_o2, if_pos (show nI 0 = (0 : Int32) from rfl)]
  obtain ⟨v2, m2, M2, -⟩ := M1.takes (i := 17) (by decide)
  rw [hss] at m2 M2
  by_cases c2 : isW B M s 17 = true
  · rw [if_pos c2] at m2 M2 ⊢
    rw [m2, z_o2, if_neg (show ¬ nI 1 = (0 : Int32) by decide)]
    exact (j_outputs hs rfl hD M2 hG hS hZ).stm ht.1
  rw [if_neg c2] at m2 M2 ⊢
  rw [m2, z_o2, if_pos (show nI 0 = (0 : Int32) from rfl)]
  obtain ⟨v3, m3, M3, -⟩ := M2.takes (i := 2) (by decide)
  rw [hss] at m3 M3
  by_cases c3 : isW B M s 2 = true
  · rw [if_pos c3] at m3 M3 ⊢
    rw [m3, z_o2, if_neg (show ¬ nI 1 = (0 : Int32) by decide)]
    exact (j_bridge hs rfl hD M3 hG hS hZ).stm ht.1
  rw [if_neg c3] at m3 M3 ⊢
  rw [m3, z_o2, if_pos (show nI 0 = (0 : Int32) from rfl)]
  obtain ⟨v4, m4, M4, -⟩ := M3.takes (i := 19) (by decide)
  rw [hss] at m4 M4
  by_cases c4 : isW B M s 19 = true
  · rw [if_pos c4] at m4 M4 ⊢
    rw [m4, z_o2, if_neg (show ¬ nI 1 = (0 : Int32) by decide)]
    exact (j_test hs rfl hD M4 hG hS hZ).stm ht.1
  rw [if_neg c4] at m4 M4 ⊢
  rw [m4, z_o2, if_pos (show nI 0 = (0 : Int32) from rfl)]
  obtain ⟨v5, e5, F5⟩ := h_fails M4.2.2.2.1 M4.2.2.2.2.2.2 (-2) (nI s)
  obtain ⟨v6, e6, C6⟩ := hD.fail (-2)
  refine Or.inr ⟨v6, vC, vT, v5, -2, nI s, ?_, ?_, C6, F5, by decide⟩
  · rw [e6]; rfl
  · rw [M4.2.1, e5, z_o2, LE_0]
/-- both readers of the whole text -/
def JA (v0 : Vs) (X : Option (Int32 × Vs × Vs × Vs)) (Y : Option (Int32 × Vs)) : Prop :=
  (∃ vD' vC' vT' vM' q', X = some (nI 0, vD', vC', vT') ∧ Y = some (nI 1, vM') ∧ CF vD' (nI 0) im1 ∧ FL v0 vM' (nI 0) im1 ∧ (∀ k, k < 440 → vM'.2.1 2 k = q' k) ∧ GR q' vC' vT') ∨
  (∃ vD' vC' vT' vM' c x, X = some (c, vD', vC', vT') ∧ Y = some (nI 0, vM') ∧ CF vD' c x ∧ FL v0 vM' c x ∧ c ≠ 0)
theorem JA.mono {v0 : Vs} {X X' : Option (Int32 × Vs × Vs × Vs)} {Y Y' : Option (Int32 × Vs)} (h : JA v0 X Y) (hX : X' = X) (hY : Y' = Y) : JA v0 X' Y' := by
  rw [hX, hY]
  exact h
theorem tk0 {B : Nat → Nat} {M s : Nat} : tkind B M s = 0 ↔ ¬ s < M := by
  unfold tkind
  by_cases c : s < M
  · rw [if_pos c]
    refine ⟨fun h => ?_, fun h => absurd c h⟩
    split at h
    · omega
    · split at h
      · omega
      · split at h <;> omega
  · rw [if_neg c]
    exact ⟨fun _ => c, fun _ => rfl⟩
theorem j_all {B : Nat → Nat} {M : Nat} {v0 : Vs} (hM : M ≤ 800) : ∀ m a c q vD vC vT vM (k1 k2 : Nat), M - a < m → m ≤ k1 → m ≤ k2 → c ≤ a → CH B M (rn isSp B M a) vD → MH B M v0 q a vM → GR q vC vT → SN2 q → ZC q vC → JA v0 (lp f_X5_read_L51 (fun _ _ _ _ _ => none) k1 (nI 1) (nI c) vD vC vT) (lp f_X8_readsAll_L68 (fun _ => none) k2 vM)
  | 0, a, c, q, vD, vC, vT, vM, k1, k2, h, _, _, _, _, _, _, _, _ => by omega
  | m + 1, a, c, q, vD, vC, vT, vM, k1, k2, h, g1, g2, hc, hD, hMM, hG, hS, hZ => by
    obtain ⟨k1, rfl⟩ : ∃ k, k1 = k + 1 := ⟨k1 - 1, by omega⟩
    obtain ⟨k2, rfl⟩ : ∃ k, k2 = k + 1 := ⟨k2 - 1, by omega⟩
    show JA v0 (f_X5_read_L51 (lp f_X5_read_L51 (fun _ _ _ _ _ => none) k1) (nI 1) (nI c) vD vC vT) (f_X8_readsAll_L68 (lp f_X8_readsAll_L68 (fun _ => none) k2) vM)
    have haM := hMM.2.2.1
    have hsa := rn_ge isSp B M a
    have hsM := rn_le isSp B haM
    obtain ⟨v1, e1, M1, -⟩ := hMM.here
    obtain ⟨s, hs⟩ : ∃ s, s = rn isSp B M a := ⟨_, rfl⟩
    have hrr : rn isSp B M s = s := by rw [hs]; exact rn_rn _ _ _ _
    rw [← hs] at hD hsa hsM e1 M1
    have d7 := hD.2.1.2.1
    have hk4 : tkind B M s ≤ 4 := by unfold tkind; (repeat' split) <;> omega
    unfold f_X5_read_L51 f_X8_readsAll_L68
    rw [e1, z_o2, z_jn, d7, z_l800]
    by_cases hb : s < M
    · rw [if_pos hb]
      have b256 := (M1.1.2.2 s hb).2
      have nb : ¬ nI (B s) = (-1 : Int32) := fun z => by
        have z : nI (B s) = im1 := z
        rw [z_pos' (by omega)] at z
        exact z
      have nk : ¬ tkind B M s = 0 := fun z => tk0.mp z hb
      have nc : ¬ 800 ≤ c := by omega
      rw [if_neg nb, iff_ nc (by omega), if_neg (show ¬ nI 1 = (0 : Int32) by decide), z_l0, ief nk (by omega) (by omega)]
      obtain ⟨k1, rfl⟩ : ∃ k, k1 = k + 1 := ⟨k1 - 1, by omega⟩
      rcases j_line hrr hD M1 hG hS hZ with ⟨vD', vC', vT', vM', q', a', x1, x2, D', M', G', S', Z', ha'⟩ | ⟨vD', vC', vT', vM', cc, x, x1, x2, C', F', hcc⟩
      · rw [x1, x2, z_o4, z_o2, if_neg (show ¬ nI 1 = nI 0 by decide), z_l1, nI_add]
        exact j_all hM m a' (c + 1) q' vD' vC' vT' vM' (k1 + 1) k2 (by omega) (by omega) (by omega) (by omega) D' M' G' S' Z'
      · rw [x1, x2, z_o4, z_o2, if_pos rfl, z_l1, nI_add]
        refine Or.inr ⟨vD', vC', vT', vM', cc, x, ?_, rfl, C', F', hcc⟩
        show f_X5_read_L51 (lp f_X5_read_L51 (fun _ _ _ _ _ => none) k1) (nI 0) (nI (c + 1)) vD' vC' vT' = _
        unfold f_X5_read_L51
        rw [z_jn, if_pos (show nI 0 = (0 : Int32) from rfl), C'.1]
        split <;> rfl
    · rw [if_neg hb, if_pos (show im1 = (-1 : Int32) from rfl), tk0.mpr hb]
      refine Or.inl ⟨vD, vC, vT, v1, q, ?_, rfl, ⟨hD.2.2.1, hD.2.2.2.1, hD.2.2.2.2⟩, ⟨M1.2.2.2.1, M1.2.2.2.2.1, M1.2.2.2.2.2.2⟩, M1.2.2.2.2.2.1, hG⟩
      rw [if_neg (show ¬ nI 1 = (0 : Int32) by decide), if_pos (show nI 0 = (0 : Int32) from rfl), hD.2.2.1]
      split <;> rfl
