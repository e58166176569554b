/-! both readers' states; signs and numbers -/
/-- what reading leaves alone -/
def PF (v0 v : Vs) : Prop := v.1 0 = v0.1 0 ∧ v.1 3 = v0.1 3 ∧ v.1 4 = v0.1 4 ∧ v.1 12 = v0.1 12 ∧ v.2.1 1 = v0.2.1 1
/-- the class at the token s -/
def CH (B : Nat → Nat) (M s : Nat) (v : Vs) : Prop := DB B M v ∧ TK B M v s ∧ v.1 4 = nI 0 ∧ v.1 2 = im1 ∧ v.1 1 = nI 0
/-- the reference at the place a, with the row q read so far -/
def MH (B : Nat → Nat) (M : Nat) (v0 : Vs) (q : Nat → Int32) (a : Nat) (v : Vs) : Prop := DM B M v ∧ v.1 14 = nI a ∧ a ≤ M ∧ v.1 15 = nI 0 ∧ v.1 16 = im1 ∧ (∀ k, k < 440 → v.2.1 2 k = q k) ∧ PF v0 v
/-- the class has failed; the reference has failed -/
def CF (v : Vs) (c x : Int32) : Prop := v.1 4 = c ∧ v.1 2 = x ∧ v.1 1 = nI 0
def FL (v0 v : Vs) (c x : Int32) : Prop := v.1 15 = c ∧ v.1 16 = x ∧ PF v0 v
theorem tend_le {B : Nat → Nat} {M s : Nat} (h : s ≤ M) : s ≤ tend B M s ∧ tend B M s ≤ M := by
  unfold tend
  by_cases a : s < M
  · rw [if_pos a]
    split
    · exact ⟨rn_ge _ _ _ _, rn_le _ _ h⟩
    · split
      · exact ⟨rn_ge _ _ _ _, rn_le _ _ h⟩
      · omega
  · rw [if_neg a]
    exact ⟨Nat.le_refl _, h⟩
theorem CH.adv {B : Nat → Nat} {M s : Nat} {v : Vs} (h : CH B M s v) (hs : s ≤ M) : ∃ v', f_X5_advance v = some v' ∧ CH B M (rn isSp B M (tend B M s)) v' := by
  obtain ⟨hB, hT, h4, h2, h1⟩ := h
  obtain ⟨v', e, hT', e2, ej⟩ := x_advance hB hT.2.2.1 (tend_le hs).2
  refine ⟨v', e, ⟨by rw [ej 5 (by decide) (by decide) (by decide) (by decide)]; exact hB.1, hB.2.1, fun i hi => by rw [e2]; exact hB.2.2 i hi⟩, hT', ?_, ?_, ?_⟩
  · rw [ej 4 (by decide) (by decide) (by decide) (by decide)]; exact h4
  · rw [ej 2 (by decide) (by decide) (by decide) (by decide)]; exact h2
  · rw [ej 1 (by decide) (by decide) (by decide) (by decide)]; exact h1
theorem CH.fail {B : Nat → Nat} {M s : Nat} {v : Vs} (h : CH B M s v) (c : Int32) : ∃ v', f_X5_fail v c = some (nI 0, v') ∧ CF v' c (nI s) := by
  obtain ⟨hB, hT, h4, h2, h1⟩ := h
  refine ⟨sF (sF v 4 c) 2 (nI s), ?_, ?_, z_sF1 _ _ _, ?_⟩
  · unfold f_X5_fail
    rw [z_bn, z_sF2 _ _ _ (by decide), hT.1]
    rfl
  · rw [z_sF2 _ _ _ (by decide), z_sF1]
  · rw [z_sF2 _ _ _ (by decide), z_sF2 _ _ _ (by decide)]; exact h1
theorem h_fails {v0 v : Vs} (h15 : v.1 15 = nI 0) (hP : PF v0 v) (c x : Int32) : ∃ v', f_X8_fails v c x = some (nI 0, v') ∧ FL v0 v' c x := by
  refine ⟨sF (sF v 15 c) 16 x, ?_, ?_, z_sF1 _ _ _, hP⟩
  · unfold f_X8_fails
    rw [if_pos (show v.1 15 = 0 from h15)]
    rfl
  · rw [z_sF2 _ _ _ (by decide), z_sF1]
theorem PF.at {v0 v v' : Vs} {s : Nat} (h : PF v0 v) (ha : AT v v' s) : PF v0 v' := by
  obtain ⟨a, b, c, d, e⟩ := h
  exact ⟨(ha.2.2 0 (by decide)).trans a, (ha.2.2 3 (by decide)).trans b, (ha.2.2 4 (by decide)).trans c, (ha.2.2 12 (by decide)).trans d, by rw [ha.1]; exact e⟩
theorem MH.at {B : Nat → Nat} {M a s : Nat} {v0 v v' : Vs} {q : Nat → Int32} (h : MH B M v0 q a v) (ha : AT v v' s) (hs : s ≤ M) : MH B M v0 q s v' := by
  obtain ⟨hB, h14, haM, h15, h16, hq, hP⟩ := h
  exact ⟨hB.at ha, ha.2.1, hs, (ha.2.2 15 (by decide)).trans h15, (ha.2.2 16 (by decide)).trans h16, fun k hk => by rw [ha.1]; exact hq k hk, hP.at ha⟩
theorem MH.here {B : Nat → Nat} {M a : Nat} {v0 v : Vs} {q : Nat → Int32} (h : MH B M v0 q a v) : ∃ v', f_X8_here v = some (if rn isSp B M a < M then nI (B (rn isSp B M a)) else im1, v') ∧ MH B M v0 q (rn isSp B M a) v' ∧ AT v v' (rn isSp B M a) := by
  obtain ⟨v', e, A⟩ := h_here h.1 h.2.1 h.2.2.1
  exact ⟨v', e, h.at A (rn_le _ _ h.2.2.1), A⟩
theorem MH.takes {B : Nat → Nat} {M a : Nat} {v0 v : Vs} {q : Nat → Int32} (h : MH B M v0 q a v) {i : Nat} (hi : i ∈ WS) : ∃ v', f_X8_takes v i = some (nI (if isW B M (rn isSp B M a) i then 1 else 0), v') ∧ MH B M v0 q (if isW B M (rn isSp B M a) i then tend B M (rn isSp B M a) else rn isSp B M a) v' ∧ AT v v' (if isW B M (rn isSp B M a) i then tend B M (rn isSp B M a) else rn isSp B M a) := by
  obtain ⟨v', e, A⟩ := h_takes h.1 h.2.1 h.2.2.1 hi
  have hs := rn_le isSp B h.2.2.1
  have ht := tend_le (B := B) hs
  have e2 : (if isW B M (rn isSp B M a) i then rn isSp B M a + wl i else rn isSp B M a) = (if isW B M (rn isSp B M a) i then tend B M (rn isSp B M a) else rn isSp B M a) := by
    by_cases c : isW B M (rn isSp B M a) i = true
    · rw [if_pos c, if_pos c, (isW_kind hi c).2.1]
    · rw [if_neg c, if_neg c]
  rw [e2] at A
  refine ⟨v', e, h.at A ?_, A⟩
  split <;> omega
theorem tk3 {B : Nat → Nat} {M s : Nat} : (tkind B M s = 3 ↔ s < M ∧ B s = 59) ∧ (tkind B M s = 3 → tend B M s = s + 1) := by
  unfold tkind tend
  by_cases a : s < M
  · rw [if_pos a, if_pos a]
    by_cases b : isDg (B s) = true
    · rw [if_pos b]
      have hb := b
      unfold isDg at hb
      rw [decide_eq_true_iff] at hb
      exact ⟨⟨fun h => by omega, fun h => by omega⟩, fun h => by omega⟩
    · rw [if_neg b, if_neg b]
      by_cases c : isLt (B s) = true
      · rw [if_pos c]
        have hc := c
        unfold isLt at hc
        rw [decide_eq_true_iff] at hc
        exact ⟨⟨fun h => by omega, fun h => by omega⟩, fun h => by omega⟩
      · rw [if_neg c, if_neg c]
        by_cases d : B s = 59
        · rw [if_pos d]; exact ⟨⟨fun _ => ⟨a, d⟩, fun _ => rfl⟩, fun _ => rfl⟩
        · rw [if_neg d]; exact ⟨⟨fun h => by omega, fun h => absurd h.2 d⟩, fun h => by omega⟩
  · rw [if_neg a]
    exact ⟨⟨fun h => by omega, fun h => by omega⟩, fun h => by omega⟩
theorem tk2 {B : Nat → Nat} {M s : Nat} : (tkind B M s = 2 ↔ s < M ∧ isDg (B s) = true) ∧ (tkind B M s = 2 → tend B M s = rn isDg B M s) := by
  unfold tkind tend
  by_cases a : s < M
  · rw [if_pos a, if_pos a]
    by_cases b : isDg (B s) = true
    · rw [if_pos b, if_pos b]
      exact ⟨⟨fun _ => ⟨a, b⟩, fun _ => rfl⟩, fun _ => rfl⟩
    · rw [if_neg b]
      refine ⟨⟨fun h => ?_, fun h => absurd h.2 b⟩, fun h => ?_⟩
      · split at h
        · omega
        · split at h <;> omega
      · split at h
        · omega
        · split at h <;> omega
  · rw [if_neg a]
    exact ⟨⟨fun h => by omega, fun h => by omega⟩, fun h => by omega⟩
/-- the semicolon, on both sides -/
theorem MH.sign {B : Nat → Nat} {M a : Nat} {v0 v : Vs} {q : Nat → Int32} (h : MH B M v0 q a v) : (tkind B M (rn isSp B M a) = 3 → ∃ v', f_X8_sign v (59 : Int32) = some (nI 1, v') ∧ MH B M v0 q (tend B M (rn isSp B M a)) v') ∧ (tkind B M (rn isSp B M a) ≠ 3 → ∃ v', f_X8_sign v (59 : Int32) = some (nI 0, v') ∧ FL v0 v' (-2) (nI (rn isSp B M a))) := by
  obtain ⟨v1, e1, M1, A1⟩ := h.here
  have hs := rn_le isSp B h.2.2.1
  obtain ⟨k1, k2⟩ := tk3 (B := B) (M := M) (s := rn isSp B M a)
  obtain ⟨s, hsd⟩ : ∃ s, s = rn isSp B M a := ⟨_, rfl⟩
  rw [← hsd] at e1 M1 A1 hs k1 k2 ⊢
  have h14 := M1.2.1
  have h800 := M1.1.2.1
  constructor
  · intro hk
    obtain ⟨a1, a2⟩ := k1.mp hk
    have A2 : AT v1 (sF v1 14 (nI (s + 1))) (s + 1) := ⟨rfl, z_sF1 _ _ _, fun j hj => z_sF2 _ _ _ hj⟩
    refine ⟨sF v1 14 (nI (s + 1)), ?_, by rw [k2 hk]; exact M1.at A2 (by omega)⟩
    unfold f_X8_sign
    rw [e1, z_o2, if_pos a1, a2, if_pos (show nI 59 = (59 : Int32) from rfl), z_bn, h14, z_p1]
    rfl
  · intro hk
    obtain ⟨v2, e2, F2⟩ := h_fails M1.2.2.2.1 M1.2.2.2.2.2.2 (-2) (nI s)
    refine ⟨v2, ?_, F2⟩
    have hne : ¬ (if s < M then nI (B s) else im1) = (59 : Int32) := by
      by_cases c : s < M
      · rw [if_pos c]
        intro z
        have b256 := (M1.1.2.2 s c).2
        exact hk (k1.mpr ⟨c, (nI_eq (by omega) (by omega)).mp (show nI (B s) = nI 59 from z)⟩)
      · rw [if_neg c]
        decide
    unfold f_X8_sign
    rw [e1, z_o2, if_neg hne, h14, e2, z_o2]
    rfl
theorem CH.semi {B : Nat → Nat} {M s : Nat} {v : Vs} (h : CH B M s v) (hs : s ≤ M) : (tkind B M s = 3 → ∃ v', f_X5_readSemicolon v = some (nI 1, v') ∧ CH B M (rn isSp B M (tend B M s)) v') ∧ (tkind B M s ≠ 3 → ∃ v', f_X5_readSemicolon v = some (nI 0, v') ∧ CF v' (-2) (nI s)) := by
  have hk4 : tkind B M s ≤ 4 := by unfold tkind; (repeat' split) <;> omega
  have h7 := h.2.1.2.1
  constructor
  · intro hk
    obtain ⟨v', e, hc⟩ := h.adv hs
    refine ⟨v', ?_, hc⟩
    unfold f_X5_readSemicolon
    rw [h7, hk, if_pos (show nI 3 = (3 : Int32) from rfl), e, z_o1]
    rfl
  · intro hk
    obtain ⟨v', e, hc⟩ := h.fail (-2)
    refine ⟨v', ?_, hc⟩
    unfold f_X5_readSemicolon
    rw [h7, z_l3, ief hk (by omega) (by omega), e, z_o2]
    rfl
/-- a number, in the reference -/
theorem MH.reads {B : Nat → Nat} {M a l hi : Nat} {v0 v : Vs} {q : Nat → Int32} (h : MH B M v0 q a v) (hl : l < 2147483648) (hh : hi < 2147483648) : (tkind B M (rn isSp B M a) ≠ 2 → ∃ v', f_X8_reads v (nI l) (nI hi) = some (nI 0, v') ∧ FL v0 v' (-2) (nI (rn isSp B M a))) ∧ (tkind B M (rn isSp B M a) = 2 → (l ≤ nmR B (rn isSp B M a) (tend B M (rn isSp B M a) - rn isSp B M a) ∧ nmR B (rn isSp B M a) (tend B M (rn isSp B M a) - rn isSp B M a) ≤ hi → ∃ v', f_X8_reads v (nI l) (nI hi) = some (nI 1, v') ∧ MH B M v0 q (tend B M (rn isSp B M a)) v' ∧ v'.1 17 = nI (nmR B (rn isSp B M a) (tend B M (rn isSp B M a) - rn isSp B M a)) ∧ v'.1 18 = nI (rn isSp B M a) ∧ v'.2 = v.2) ∧ (¬ (l ≤ nmR B (rn isSp B M a) (tend B M (rn isSp B M a) - rn isSp B M a) ∧ nmR B (rn isSp B M a) (tend B M (rn isSp B M a) - rn isSp B M a) ≤ hi) → ∃ v', f_X8_reads v (nI l) (nI hi) = some (nI 0, v') ∧ FL v0 v' (-3) (nI (rn isSp B M a)))) := by
  obtain ⟨v1, e1, M1, A1⟩ := h.here
  have hs := rn_le isSp B h.2.2.1
  obtain ⟨k1, k2⟩ := tk2 (B := B) (M := M) (s := rn isSp B M a)
  obtain ⟨s, hsd⟩ : ∃ s, s = rn isSp B M a := ⟨_, rfl⟩
  rw [← hsd] at e1 M1 A1 hs k1 k2 ⊢
  have h14 := M1.2.1
  have h800 := M1.1.2.1
  refine ⟨fun hk => ?_, fun hk => ?_⟩
  · obtain ⟨v2, e2, F2⟩ := h_fails M1.2.2.2.1 M1.2.2.2.2.2.2 (-2) (nI s)
    refine ⟨v2, ?_, F2⟩
    have hd : f_X8_isDigit (if s < M then nI (B s) else im1) = some (nI 0) := by
      by_cases c : s < M
      · rw [if_pos c, g_isDigit (M1.1.2.2 s c).2, if_neg (fun z => hk (k1.mpr ⟨c, z⟩))]
      · rw [if_neg c, g_isDigit1]
    unfold f_X8_reads
    rw [e1, z_o2, hd, z_o1, if_pos (show nI 0 = (0 : Int32) from rfl), h14, e2, z_o2]
    rfl
  · obtain ⟨c, hd⟩ := k1.mp hk
    have te := k2 hk
    obtain ⟨E, hE⟩ : ∃ E, E = tend B M s := ⟨_, rfl⟩
    have hEle := (tend_le (B := B) hs)
    rw [← hE] at te hEle ⊢
    obtain ⟨-, nb⟩ := nm_CR (B := B) (p := s) (E - s) (fun i h1 h2 => rn_in (c := isDg) (M := M) h1 (by omega))
    have key : Ok (f_X8_reads v (nI l) (nI hi)) (fun q' => (l ≤ nmR B s (E - s) ∧ nmR B s (E - s) ≤ hi → q'.1 = nI 1 ∧ MH B M v0 q E q'.2 ∧ q'.2.1 17 = nI (nmR B s (E - s)) ∧ q'.2.1 18 = nI s ∧ q'.2.2 = v.2) ∧ (¬ (l ≤ nmR B s (E - s) ∧ nmR B s (E - s) ≤ hi) → q'.1 = nI 0 ∧ FL v0 q'.2 (-3) (nI s))) := by
      unfold f_X8_reads
      refine ok_o2e e1 ?_
      rw [if_pos c]
      refine ok_o1e (g_isDigit (M1.1.2.2 s c).2) ?_
      rw [if_pos hd, if_neg (by decide)]
      refine ok_bn ?_
      refine ok_bn ?_
      refine zl1 (I := fun m u => ∃ t, s ≤ t ∧ t ≤ M ∧ m = M - t ∧ rn isDg B M t = rn isDg B M s ∧ u.1 14 = nI t ∧ u.1 17 = nI (nmR B s (t - s)) ∧ u.1 18 = nI s ∧ u.2 = v1.2 ∧ ∀ j, j ≠ 14 → j ≠ 17 → j ≠ 18 → u.1 j = v1.1 j) ?_ FU (M - s) _ (by unfold FU; omega) ⟨s, by omega, by omega, rfl, rfl, ?_, ?_, ?_, rfl, fun j a b d => ?_⟩
      · rintro m u self ⟨t, hst, htM, rfl, hrt, u14, u17, u18, u2, uj⟩ ih
        have u13 : u.1 13 = nI M := by rw [uj 13 (by decide) (by decide) (by decide)]; exact M1.1.1
        have ub : ∀ i, i < M → u.2.1 11 i = nI (B i) ∧ B i < 256 := fun i hi => by rw [u2]; exact M1.1.2.2 i hi
        have hte := rn_ge isDg B M t
        obtain ⟨-, nbt⟩ := nm_CR (B := B) (p := s) (t - s) (fun i h1 h2 => rn_in (c := isDg) (M := M) h1 (by omega))
        have hPF : PF v0 u := by
          obtain ⟨p1, p2, p3, p4, p5⟩ := M1.2.2.2.2.2.2
          exact ⟨(uj 0 (by decide) (by decide) (by decide)).trans p1, (uj 3 (by decide) (by decide) (by decide)).trans p2, (uj 4 (by decide) (by decide) (by decide)).trans p3, (uj 12 (by decide) (by decide) (by decide)).trans p4, by rw [u2]; exact p5⟩
        have u15 : u.1 15 = nI 0 := (uj 15 (by decide) (by decide) (by decide)).trans M1.2.2.2.1
        unfold f_X8_reads_L34
        refine ok_jn ?_
        have done : rn isDg B M t = t → Ok (o1 (f_X8_isIn (u.1 17) (nI l) (nI hi)) (fun (r15 : Int32) => jn (fun (t17 : Int32) (vM_18 : Vs) => gd (isB t17) (some (t17, vM_18))) (fun k19 => jn (fun (vM_25 : Vs) => k19 (1 : Int32) vM_25) (fun k26 => if r15 = 0 then o2 (f_X8_fails u (-3 : Int32) (u.1 18)) (fun (r30 : Int32) (vM_31 : Vs) => if r30 = 0 then k19 (0 : Int32) vM_31 else k26 vM_31) else k26 u)))) (fun q' => (l ≤ nmR B s (E - s) ∧ nmR B s (E - s) ≤ hi → q'.1 = nI 1 ∧ MH B M v0 q E q'.2 ∧ q'.2.1 17 = nI (nmR B s (E - s)) ∧ q'.2.1 18 = nI s ∧ q'.2.2 = v.2) ∧ (¬ (l ≤ nmR B s (E - s) ∧ nmR B s (E - s) ≤ hi) → q'.1 = nI 0 ∧ FL v0 q'.2 (-3) (nI s))) := by
          intro hx
          have hEt : E = t := by rw [te, ← hrt, hx]
          rw [u17, hEt]
          have ei := isIn_at (a := nmR B s (t - s)) (b := l) (c := hi) (by omega) hl hh
          refine ok_o1e ei ?_
          refine ok_jn ?_
          refine ok_jn ?_
          by_cases hr : l ≤ nmR B s (t - s) ∧ nmR B s (t - s) ≤ hi
          · rw [if_pos hr, if_neg (show ¬ nI 1 = (0 : Int32) by decide)]
            refine ok_gd (by decide) (ok_some ⟨fun _ => ⟨rfl, ⟨⟨u13, h800, ub⟩, u14, htM, u15, ?_, fun k hk => ?_, hPF⟩, u17, u18, by rw [u2]; exact A1.1⟩, fun z => absurd hr z⟩)
            · rw [uj 16 (by decide) (by decide) (by decide)]; exact M1.2.2.2.2.1
            · rw [u2]; exact M1.2.2.2.2.2.1 k hk
          · rw [if_neg hr, if_pos (show nI 0 = (0 : Int32) from rfl), u18]
            obtain ⟨v2, e2, F2⟩ := h_fails u15 hPF (-3) (nI s)
            refine ok_o2e e2 ?_
            rw [if_pos (show nI 0 = (0 : Int32) from rfl)]
            exact ok_gd (by decide) (ok_some ⟨fun z => absurd z hr, fun _ => ⟨rfl, F2⟩⟩)
        rw [u13, u14]
        by_cases cM : M ≤ t
        · rw [ift cM (by omega)]
          exact done (rn_no (by omega))
        · rw [iff_ cM (by omega)]
          have hin : inb (nI t) 800 = true := z_inb (by omega) (by omega)
          refine ok_gd hin ?_
          rw [z_cl (by omega), (ub t (by omega)).1]
          have b256 := (ub t (by omega)).2
          refine ok_o1e (g_isDigit b256) ?_
          by_cases hdt : isDg (B t) = true
          · rw [if_pos hdt, if_neg (by decide)]
            refine ok_jn ?_
            have hdt' := hdt
            unfold isDg at hdt'
            rw [decide_eq_true_iff] at hdt'
            have en : nmR B s (t + 1 - s) = if nmR B s (t - s) ≤ 100000 then 10 * nmR B s (t - s) + B t - 48 else nmR B s (t - s) := by
              rw [show t + 1 - s = (t - s) + 1 by omega]
              show (if nmR B s (t - s) ≤ 100000 then 10 * nmR B s (t - s) + B (s + (t - s)) - 48 else nmR B s (t - s)) = _
              rw [show s + (t - s) = t by omega]
            have st : ∀ x, x = nI (nmR B s (t + 1 - s)) → Ok (bn (sF u 17 x) (fun (vM_43 : Vs) => bn (sF vM_43 14 ((vM_43.1 14) + (1 : Int32))) (fun (vM_44 : Vs) => self vM_44))) (fun q' => (l ≤ nmR B s (E - s) ∧ nmR B s (E - s) ≤ hi → q'.1 = nI 1 ∧ MH B M v0 q E q'.2 ∧ q'.2.1 17 = nI (nmR B s (E - s)) ∧ q'.2.1 18 = nI s ∧ q'.2.2 = v.2) ∧ (¬ (l ≤ nmR B s (E - s) ∧ nmR B s (E - s) ≤ hi) → q'.1 = nI 0 ∧ FL v0 q'.2 (-3) (nI s))) := by
              rintro x rfl
              refine ok_bn ?_
              refine ok_bn ?_
              refine ih _ _ (show M - (t + 1) < M - t by omega) ⟨t + 1, by omega, by omega, rfl, by rw [← hrt, rn_go (show t < M by omega) hdt], ?_, ?_, ?_, u2, fun j a b d => ?_⟩
              · rw [z_sF1, z_sF2 _ _ _ (by decide), u14, z_p1]
              · rw [z_sF2 _ _ _ (by decide), z_sF1]
              · rw [z_sF2 _ _ _ (by decide), z_sF2 _ _ _ (by decide)]; exact u18
              · rw [z_sF2 _ _ _ a, z_sF2 _ _ _ b]; exact uj j a b d
            rw [u17, z_l100000]
            by_cases cc : nmR B s (t - s) ≤ 100000
            · rw [ift cc (by omega)]
              refine ok_gd hin ?_
              refine st _ ?_
              rw [en, if_pos cc, z_l10, z_mul, nI_add, z_l48, z_sub (by omega)]
            · rw [iff_ cc (by omega)]
              refine st _ ?_
              rw [en, if_neg cc]
          · rw [if_neg hdt, if_pos (show nI 0 = (0 : Int32) from rfl)]
            exact done (rn_no (fun z => hdt z.2))
      · rw [z_sF2 _ _ _ (by decide), z_sF2 _ _ _ (by decide)]; exact h14
      · rw [z_sF1, Nat.sub_self]; rfl
      · rw [z_sF2 _ _ _ (by decide), z_sF1, h14]
      · rw [z_sF2 _ _ _ b, z_sF2 _ _ _ d]
    obtain ⟨⟨x, v'⟩, e, y1, y2⟩ := key
    refine ⟨fun hr => ?_, fun hr => ?_⟩
    · obtain ⟨z1, z2⟩ := y1 hr
      have z1 : x = nI 1 := z1
      rw [z1] at e
      exact ⟨v', e, z2⟩
    · obtain ⟨z1, z2⟩ := y2 hr
      have z1 : x = nI 0 := z1
      rw [z1] at e
      exact ⟨v', e, z2⟩
