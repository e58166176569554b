/-! both readers' states; signs and numbers -/
/-- what reading leaves alone -/
def PF (v0 v : Vs) : Prop := v.1 0 = v0.1 0 ∧ v.1 3 = v0.1 3 ∧ v.1 4 = v0.1 4 ∧ v.1 12 = v0.1 12 ∧ v.2.1 1 = v0.2.1 1
/-- the class at the token s -/
def CH (B : Nat → Nat) (M s : Nat) (v : Vs) : Prop := DB B M v ∧ TK B M v s ∧ v.1 4 = nI 0 ∧ v.1 2 = im1 ∧ v.1 1 = nI 0
/-- the reference at the place a, with the row q read so far -/
def MH (B : Nat → Nat) (M : Nat) (v0 : Vs) (q : Nat → Int32) (a : Nat) (v : Vs) : Prop := DM B M v ∧ v.1 14 = nI a ∧ a ≤ M ∧ v.1 15 = nI 0 ∧ v.1 16 = im1 ∧ (∀ k, k < 440 → v.2.1 2 k = q k) ∧ PF v0 v
/-- the class has failed; the reference has failed -/
def CF (v : Vs) (c x : Int32) : Prop := v.1 4 = c ∧ v.1 2 = x ∧ v.1 1 = nI 0
def FL (v0 v : Vs) (c x : Int32) : Prop := v.1 15 = c ∧ v.1 16 = x ∧ PF v0 v
theorem tend_le {B : Nat → Nat} {M s : Nat} (h : s ≤ M) : s ≤ tend B M s ∧ tend B M s ≤ M := by
  unfold tend
  by_cases a : s < M
  · rw [if_pos a]
    split
    · exact ⟨rn_ge _ _ _ _, rn_le _ _ h⟩
    · split
      · exact ⟨rn_ge _ _ _ _, rn_le _ _ h⟩
      · omega
  · rw [if_neg a]
    exact ⟨Nat.le_refl _, h⟩
theorem CH.adv {B : Nat → Nat} {M s : Nat} {v : Vs} (h : CH B M s v) (hs : s ≤ M) : ∃ v', f_X5_advance v = some v' ∧ CH B M (rn isSp B M (tend B M s)) v' := by
  obtain ⟨hB, hT, h4, h2, h1⟩ := h
  obtain ⟨v', e, hT', e2, ej⟩ := x_advance hB hT.2.2.1 (tend_le hs).2
  refine ⟨v', e, ⟨by rw [ej 5 (by decide) (by decide) (by decide) (by decide)]; exact hB.1, hB.2.1, fun i hi => by rw [e2]; exact hB.2.2 i hi⟩, hT', ?_, ?_, ?_⟩
  · rw [ej 4 (by decide) (by decide) (by decide) (by decide)]; exact h4
  · rw [ej 2 (by decide) (by decide) (by decide) (by decide)]; exact h2
  · rw [ej 1 (by decide) (by decide) (by decide) (by decide)]; exact h1
theorem CH.fail {B : Nat → Nat} {M s : Nat} {v : Vs} (h : CH B M s v) (c : Int32) : ∃ v', f_X5_fail v c = some (nI 0, v') ∧ CF v' c (nI s) := by
  obtain ⟨hB, hT, h4, h2, h1⟩ := h
  refine ⟨sF (sF v 4 c) 2 (nI s), ?_, ?_, z_sF1 _ _ _, ?_⟩
  · unfold f_X5_fail
    rw [z_bn, z_sF2 _ _ _ (by decide), hT.1]
    rfl
  · rw [z_sF2 _ _ _ (by decide), z_sF1]
  · rw [z_sF2 _ _ _ (by decide), z_sF2 _ _ _ (by decide)]; exact h1
theorem PF.at {v0 v v' : Vs} {s : Nat} (h : PF v0 v) (ha : AT v v' s) : PF v0 v' := by
  obtain ⟨a, b, c, d, e⟩ := h
  exact ⟨(ha.2.2 0 (by decide)).trans a, (ha.2.2 3 (by decide)).trans b, (ha.2.2 4 (by decide)).trans c, (ha.2.2 12 (by decide)).trans d, by rw [ha.1]; exact e⟩
theorem MH.at {B : Nat → Nat} {M a s : Nat} {v0 v v' : Vs} {q : Nat → Int32} (h : MH B M v0 q a v) (ha : AT v v' s) (hs : s ≤ M) : MH B M v0 q s v' := by
  obtain ⟨hB, h14, haM, h15, h16, hq, hP⟩ := h
  exact ⟨hB.at ha, ha.2.1, hs, (ha.2.2 15 (by decide)).trans h15, (ha.2.2 16 (by decide)).trans h16, fun k hk => by rw [ha.1]; exact hq k hk, hP.at ha⟩
theorem tk3 {B : Nat → Nat} {M s : Nat} : (tkind B M s = 3 ↔ s < M ∧ B s = 59) ∧ (tkind B M s = 3 → tend B M s = s + 1) := by
  unfold tkind tend
  by_cases a : s < M
  · rw [if_pos a, if_pos a]
    by_cases b : isDg (B s) = true
    · rw [if_pos b]
      have hb := b
      unfold isDg at hb
      rw [decide_eq_true_iff] at hb
      exact ⟨⟨fun h => by omega, fun h => by omega⟩, fun h => by omega⟩
    · rw [if_neg b, if_neg b]
      by_cases c : isLt (B s) = true
      · rw [if_pos c]
        have hc := c
        unfold isLt at hc
        rw [decide_eq_true_iff] at hc
        exact ⟨⟨fun h => by omega, fun h => by omega⟩, fun h => by omega⟩
      · rw [if_neg c, if_neg c]
        by_cases d : B s = 59
        · rw [if_pos d]; exact ⟨⟨fun _ => ⟨a, d⟩, fun _ => rfl⟩, fun _ => rfl⟩
        · rw [if_neg d]; exact ⟨⟨fun h => by omega, fun h => absurd h.2 d⟩, fun h => by omega⟩
  · rw [if_neg a]
    exact ⟨⟨fun h => by omega, fun h => by omega⟩, fun h => by omega⟩
theorem tk2 {B : Nat → Nat} {M s : Nat} : (tkind B M s = 2 ↔ s < M ∧ isDg (B s) = true) ∧ (tkind B M s = 2 → tend B M s = rn isDg B M s) := by
  unfold tkind tend
  by_cases a : s < M
  · rw [if_pos a, if_pos a]
    by_cases b : isDg (B s) = true
    · rw [if_pos b, if_pos b]
      exact ⟨⟨fun _ => ⟨a, b⟩, fun _ => rfl⟩, fun _ => rfl⟩
    · rw [if_neg b]
      refine ⟨⟨fun h => ?_, fun h => absurd h.2 b⟩, fun h => ?_⟩
      · split at h
        · omega
        · split at h <;> omega
      · split at h
        · omega
        · split at h <;> omega
  · rw [if_neg a]
    exact ⟨⟨fun h => by omega, fun h => by omega⟩, fun h => by omega⟩
theorem CH.semi {B : Nat → Nat} {M s : Nat} {v : Vs} (h : CH B M s v) (hs : s ≤ M) : (tkind B M s = 3 → ∃ v', f_X5_readSemicolon v = some (nI 1, v') ∧ CH B M (rn isSp B M (tend B M s)) v') ∧ (tkind B M s ≠ 3 → ∃ v', f_X5_readSemicolon v = some (nI 0, v') ∧ CF v' (-2) (nI s)) := by
  have hk4 : tkind B M s ≤ 4 := by unfold tkind; (repeat' split) <;> omega
  have h7 := h.2.1.2.1
  constructor
  · intro hk
    obtain ⟨v', e, hc⟩ := h.adv hs
    refine ⟨v', ?_, hc⟩
    unfold f_X5_readSemicolon
    rw [h7, hk, if_pos (show nI 3 = (3 : Int32) from rfl), e, z_o1]
    rfl
  · intro hk
    obtain ⟨v', e, hc⟩ := h.fail (-2)
    refine ⟨v', ?_, hc⟩
    unfold f_X5_readSemicolon
    rw [h7, z_l3, ief hk (by omega) (by omega), e, z_o2]
    rfl
