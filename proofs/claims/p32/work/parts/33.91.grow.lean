/-! the row with one gate more -/
def GW (q s : Nat → Int32) (k n : Nat) (o : Nat → Nat) : Prop := s 1 = nI (NW q + 1) ∧ s (8 + NW q) = nI k ∧ s (32 + NW q) = nI n ∧ (∀ j, j < n → s (56 + 4 * NW q + j) = nI (o j) ∧ o j < NW q) ∧ ∀ c, c < 440 → c ≠ 1 → c ≠ 8 + NW q → c ≠ 32 + NW q → (c < 56 + 4 * NW q ∨ 56 + 4 * NW q + 4 ≤ c) → s c = q c
theorem GW.wf {q s : Nat → Int32} {k n : Nat} {o : Nat → Nat} (hw : WFc q) (h16 : NW q < NI q + 16) (hk : k ≤ 8) (hn1 : few k ≤ n) (hn2 : n ≤ mst k) (h : GW q s k n o) : WFc s ∧ GS q s ∧ NI s = NI q ∧ NW s = NW q + 1 ∧ NO s = NO q ∧ NB s = NB q ∧ hv s (NW q) = n ∧ kd s (NW q) = k ∧ ∀ j, j < n → op s (NW q) j = o j := by
  obtain ⟨s1, sk, sn', so, se⟩ := h
  have hnf := hw.nf
  have hm := mst_4 k
  have hI1 := hw.1.2.1
  have hWI := hw.2.1.2.1
  have e0 : NI s = NI q := by show nn (s 0) = nn (q 0); rw [se 0 (by omega) (by omega) (by omega) (by omega) (by omega)]
  have e1 : NW s = NW q + 1 := by show nn (s 1) = _; rw [s1, nn_nI (by omega)]
  have e2 : NO s = NO q := by show nn (s 2) = nn (q 2); rw [se 2 (by omega) (by omega) (by omega) (by omega) (by omega)]
  have e3 : NB s = NB q := by show nn (s 3) = nn (q 3); rw [se 3 (by omega) (by omega) (by omega) (by omega) (by omega)]
  have ekn : kd s (NW q) = k := by show nn (s (8 + NW q)) = _; rw [sk, nn_nI (by omega)]
  have ehn : hv s (NW q) = n := by show nn (s (32 + NW q)) = _; rw [sn', nn_nI (by omega)]
  have eon : ∀ j, j < n → op s (NW q) j = o j := fun j hj => by show nn (s (56 + 4 * NW q + j)) = _; rw [(so j hj).1, nn_nI (by have := (so j hj).2; omega)]
  have ek : ∀ w, w < NW q → s (8 + w) = q (8 + w) ∧ kd s w = kd q w := fun w hw => by
    have e := se (8 + w) (by omega) (by omega) (by omega) (by omega) (by omega)
    exact ⟨e, by show nn _ = nn _; rw [e]⟩
  have eh : ∀ w, w < NW q → s (32 + w) = q (32 + w) ∧ hv s w = hv q w := fun w hw => by
    have e := se (32 + w) (by omega) (by omega) (by omega) (by omega) (by omega)
    exact ⟨e, by show nn _ = nn _; rw [e]⟩
  have eo : ∀ w j, w < NW q → j < 4 → s (56 + 4 * w + j) = q (56 + 4 * w + j) ∧ op s w j = op q w j := fun w j hw hj => by
    have e := se (56 + 4 * w + j) (by omega) (by omega) (by omega) (by omega) (by omega)
    exact ⟨e, by show nn _ = nn _; rw [e]⟩
  refine ⟨?_, ⟨se 0 (by omega) (by omega) (by omega) (by omega) (by omega), fun w h2 => ⟨(eh w h2).1, fun j hj => (eo w j h2 hj).1⟩⟩, e0, e1, e2, e3, ehn, ekn, eon⟩
  obtain ⟨a1, a2, a3, a4, a5, a6, a7, a8, a9⟩ := hw
  unfold WFc
  rw [e0, e1, e2, e3, s1, se 0 (by omega) (by omega) (by omega) (by omega) (by omega), se 2 (by omega) (by omega) (by omega) (by omega) (by omega), se 3 (by omega) (by omega) (by omega) (by omega) (by omega)]
  refine ⟨a1, ⟨rfl, by omega, by omega⟩, a3, a4, fun w h1 => ?_, fun w h1 h2 => ?_, fun w j h1 h2 hj => ?_, fun u h1 => ?_, fun b h1 => ?_⟩
  · rw [(ek w (by omega)).1, (eh w (by omega)).1]
    exact a5 w h1
  · by_cases e : w = NW q
    · rw [e, ekn, ehn]
      exact ⟨⟨sk, hk⟩, sn', hn1, hn2⟩
    · rw [(ek w (by omega)).1, (eh w (by omega)).1, (ek w (by omega)).2, (eh w (by omega)).2]
      exact a6 w h1 (by omega)
  · by_cases e : w = NW q
    · rw [e, ehn] at hj
      rw [e, eon j hj]
      exact so j hj
    · rw [(eh w (by omega)).2] at hj
      have h4 := (a6 w h1 (by omega)).2.2.2
      have h5 := mst_4 (kd q w)
      rw [(eo w j (by omega) (by omega)).1, (eo w j (by omega) (by omega)).2]
      exact a7 w j h1 (by omega) hj
  · have e := se (152 + u) (by omega) (by omega) (by omega) (by omega) (by omega)
    have e9 : ou s u = ou q u := by show nn _ = nn _; rw [e]
    rw [e, e9]
    exact ⟨(a8 u h1).1, by have := (a8 u h1).2; omega⟩
  · have b1 := se (158 + 3 * b) (by omega) (by omega) (by omega) (by omega) (by omega)
    have b2 := se (158 + 3 * b + 1) (by omega) (by omega) (by omega) (by omega) (by omega)
    have b3 := se (158 + 3 * b + 2) (by omega) (by omega) (by omega) (by omega) (by omega)
    have c1 : bk s b = bk q b := by show nn _ = nn _; rw [b1]
    have c2 : ba s b = ba q b := by show nn _ = nn _; rw [b2]
    have c3 : bb s b = bb q b := by show nn _ = nn _; rw [b3]
    obtain ⟨z1, z2, z3⟩ := a9 b h1
    rw [b1, b2, b3, c1, c2, c3]
    exact ⟨z1, ⟨z2.1, by have := z2.2; omega⟩, z3.1, by have := z3.2; omega⟩
