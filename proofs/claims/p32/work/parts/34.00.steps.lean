/-! a known text, token by token -/
def PC (B : Nat → Nat) (s : Nat) (L : List Nat) : Prop := ∀ j, j < L.length → B (s + j) = L.getD j 0
theorem PC.app {B : Nat → Nat} {s : Nat} {L R : List Nat} (h : PC B s (L ++ R)) : PC B s L ∧ PC B (s + L.length) R := by
  refine ⟨fun j hj => ?_, fun j hj => ?_⟩
  · have := h j (by rw [List.length_append]; omega)
    rw [this, getD_app, if_pos hj]
  · have := h (L.length + j) (by rw [List.length_append]; omega)
    rw [Nat.add_assoc, this, getD_app, if_neg (by omega), Nat.add_sub_cancel_left]
theorem PC.one {B : Nat → Nat} {s x : Nat} (h : PC B s [x]) : B s = x := h 0 (by simp)
theorem rn_run {c : Nat → Bool} {B : Nat → Nat} {M : Nat} : ∀ n s, s + n ≤ M → (∀ k, k < n → c (B (s + k)) = true) → rn c B M s = rn c B M (s + n)
  | 0, _, _, _ => rfl
  | n + 1, s, h, hc => by
    rw [rn_go (p := s) (by omega) (hc 0 (by omega)), rn_run n (s + 1) (by omega) (fun k hk => by rw [show s + 1 + k = s + (k + 1) by omega]; exact hc (k + 1) (by omega)), show s + 1 + n = s + (n + 1) by omega]
theorem sp_0 {B : Nat → Nat} {M p : Nat} (h : B p ≠ 32) : rn isSp B M p = p := rn_no (fun q => h (by have := q.2; unfold isSp at this; exact decide_eq_true_iff.mp this))
theorem sp_1 {B : Nat → Nat} {M p : Nat} (hp : p < M) (h : B p = 32) (h2 : B (p + 1) ≠ 32) : rn isSp B M p = p + 1 := by
  rw [rn_go hp (by unfold isSp; rw [h]; rfl)]
  exact sp_0 h2
theorem sp_M {B : Nat → Nat} {M : Nat} : rn isSp B M M = M := rn_no (by omega)
theorem wdS_wc (i k : Nat) : (wdS i).getD k 0 = wc i k := by
  unfold wdS wc
  simp only [List.getD_eq_getElem?_getD, List.getElem?_map]
  cases ((bytS[i]?).getD [])[k]? <;> rfl
theorem WS_27 : ∀ i, i ∈ WS → i < 27 := by decide
theorem WS_ne : ∀ i, i ∈ WS → ∀ j, j ∈ WS → i ≠ j → wl i ≠ wl j ∨ ∃ k, k < wl i ∧ wc i k ≠ wc j k := by decide +kernel
theorem wl_len {i : Nat} (hi : i ∈ WS) : (wdS i).length = wl i := (wd_is i (WS_27 i hi)).1.symm
theorem isW_no {B : Nat → Nat} {M s i j : Nat} (hi : i ∈ WS) (hj : j ∈ WS) (hne : i ≠ j) (h : isW B M s i = true) : isW B M s j = false := by
  cases h2 : isW B M s j with
  | false => rfl
  | true =>
    unfold isW at h h2
    rw [decide_eq_true_iff] at h h2
    rcases WS_ne i hi j hj hne with q | ⟨k, k1, k2⟩
    · omega
    · exact absurd ((h.2 k k1).symm.trans (h2.2 k (by omega))) k2
theorem CH.word {B : Nat → Nat} {M s : Nat} {v : Vs} (h : CH B M s v) {i : Nat} (hi : i ∈ WS) (hM : s + wl i < M) (hc : PC B s (wdS i)) (hn : isLt (B (s + wl i)) = false) : isW B M s i = true ∧ ∃ v', f_X5_advance v = some v' ∧ CH B M (rn isSp B M (s + wl i)) v' := by
  obtain ⟨w1, w0, w20, wch⟩ := words i hi
  have hl := wl_len hi
  have hB : ∀ k, k < wl i → B (s + k) = wc i k := fun k hk => by rw [hc k (by omega), wdS_wc]
  have hw : isW B M s i = true := by
    unfold isW
    rw [decide_eq_true_iff]
    refine ⟨?_, hB⟩
    rw [rn_run (wl i) s (by omega) (fun k hk => by
      obtain ⟨c1, c2, c3⟩ := wch k hk
      rw [hB k hk]
      unfold isLt
      rw [decide_eq_true_iff]
      exact ⟨c2, c3⟩)]
    exact rn_no (fun q => by rw [hn] at q; exact absurd q.2 (by decide))
  obtain ⟨k1, k2, k3⟩ := isW_kind hi hw
  obtain ⟨v', e, h'⟩ := h.adv (by omega)
  rw [k2] at h'
  exact ⟨hw, v', e, h'⟩
theorem CH.dig {B : Nat → Nat} {M s : Nat} {v : Vs} (h : CH B M s v) {d : Nat} (hd : d < 10) (hs : s + 1 < M) (hb : B s = 48 + d) (hn : isDg (B (s + 1)) = false) : v.1 7 = nI 2 ∧ v.1 9 = nI d ∧ ∃ v', f_X5_advance v = some v' ∧ CH B M (rn isSp B M (s + 1)) v' := by
  have hdg : isDg (B s) = true := by
    unfold isDg
    rw [decide_eq_true_iff]
    omega
  have k2 : tkind B M s = 2 := tk2.1.mpr ⟨by omega, hdg⟩
  have kt : tend B M s = s + 1 := by
    rw [tk2.2 k2, rn_go (by omega) hdg]
    exact rn_no (fun q => by rw [hn] at q; exact absurd q.2 (by decide))
  have en : nmC B s 1 = d := by
    show (if 0 * 10 + B (s + 0) - 48 < 100000 then 0 * 10 + B (s + 0) - 48 else 100000) = d
    rw [Nat.add_zero, hb, if_pos (by omega)]
    omega
  obtain ⟨v', e, h'⟩ := h.adv (by omega)
  obtain ⟨hB, ⟨t8, t7, t6, t9⟩, -⟩ := h
  have t9 := t9 k2
  rw [kt, Nat.add_sub_cancel_left, en] at t9
  rw [k2] at t7
  rw [kt] at h'
  exact ⟨t7, t9, v', e, h'⟩
theorem CH.end3 {B : Nat → Nat} {M s : Nat} {v : Vs} (h : CH B M s v) (hs : s < M) (hb : B s = 59) : v.1 7 = nI 3 ∧ ∃ v', f_X5_readSemicolon v = some (nI 1, v') ∧ CH B M (rn isSp B M (s + 1)) v' := by
  have k3 : tkind B M s = 3 := tk3.1.mpr ⟨hs, hb⟩
  have kt := tk3.2 k3
  obtain ⟨v', e, h'⟩ := (h.semi (by omega)).1 k3
  obtain ⟨hB, ⟨t8, t7, -⟩, -⟩ := h
  rw [k3] at t7
  rw [kt] at h'
  exact ⟨t7, v', e, h'⟩
theorem lt_sp : isLt 32 = false ∧ isLt 59 = false ∧ isDg 32 = false ∧ isDg 59 = false := by decide
-- kinds of gates
def kwN (k : Nat) : Nat := ([3, 18, 14, 15, 26, 25, 16, 6, 13] : List Nat).getD k 0
theorem kwN_nmS : ∀ k, k < 9 → nmS k = kwN k ∧ kwN k ∈ WS ∧ ∀ j, j < 9 → j ≠ k → kwN j ≠ kwN k := by decide
theorem kw_is {B : Nat → Nat} {M s k : Nat} (hk : k < 9) (h : isW B M s (kwN k) = true) : kwI B M s = nI k := by
  obtain ⟨-, hm, hne⟩ := kwN_nmS k hk
  have hno : ∀ j, j < 9 → j ≠ k → isW B M s (kwN j) = false := fun j hj hjk => isW_no hm (kwN_nmS j hj).2.1 (fun e => hne j hj hjk e.symm) h
  have hf : ∀ j, j < 9 → j ≠ k → ¬ isW B M s (kwN j) = true := fun j hj hjk => by rw [hno j hj hjk]; decide
  have hh : k = 0 ∨ k = 1 ∨ k = 2 ∨ k = 3 ∨ k = 4 ∨ k = 5 ∨ k = 6 ∨ k = 7 ∨ k = 8 := by omega
  unfold kwI
  rcases hh with rfl | rfl | rfl | rfl | rfl | rfl | rfl | rfl | rfl
  · exact if_pos h
  · exact (if_neg (hf 0 (by decide) (by decide))).trans (if_pos h)
  · exact (if_neg (hf 0 (by decide) (by decide))).trans ((if_neg (hf 1 (by decide) (by decide))).trans (if_pos h))
  · exact (if_neg (hf 0 (by decide) (by decide))).trans ((if_neg (hf 1 (by decide) (by decide))).trans ((if_neg (hf 2 (by decide) (by decide))).trans (if_pos h)))
  · exact (if_neg (hf 0 (by decide) (by decide))).trans ((if_neg (hf 1 (by decide) (by decide))).trans ((if_neg (hf 2 (by decide) (by decide))).trans ((if_neg (hf 3 (by decide) (by decide))).trans (if_pos h))))
  · exact (if_neg (hf 0 (by decide) (by decide))).trans ((if_neg (hf 1 (by decide) (by decide))).trans ((if_neg (hf 2 (by decide) (by decide))).trans ((if_neg (hf 3 (by decide) (by decide))).trans ((if_neg (hf 4 (by decide) (by decide))).trans (if_pos h)))))
  · exact (if_neg (hf 0 (by decide) (by decide))).trans ((if_neg (hf 1 (by decide) (by decide))).trans ((if_neg (hf 2 (by decide) (by decide))).trans ((if_neg (hf 3 (by decide) (by decide))).trans ((if_neg (hf 4 (by decide) (by decide))).trans ((if_neg (hf 5 (by decide) (by decide))).trans (if_pos h))))))
  · exact (if_neg (hf 0 (by decide) (by decide))).trans ((if_neg (hf 1 (by decide) (by decide))).trans ((if_neg (hf 2 (by decide) (by decide))).trans ((if_neg (hf 3 (by decide) (by decide))).trans ((if_neg (hf 4 (by decide) (by decide))).trans ((if_neg (hf 5 (by decide) (by decide))).trans ((if_neg (hf 6 (by decide) (by decide))).trans (if_pos h)))))))
  · exact (if_neg (hf 0 (by decide) (by decide))).trans ((if_neg (hf 1 (by decide) (by decide))).trans ((if_neg (hf 2 (by decide) (by decide))).trans ((if_neg (hf 3 (by decide) (by decide))).trans ((if_neg (hf 4 (by decide) (by decide))).trans ((if_neg (hf 5 (by decide) (by decide))).trans ((if_neg (hf 6 (by decide) (by decide))).trans ((if_neg (hf 7 (by decide) (by decide))).trans (if_pos h))))))))
theorem few_I : ∀ k, k < 9 → fewI k = nI (few k) ∧ mostI k = nI (mst k) := by decide +kernel
