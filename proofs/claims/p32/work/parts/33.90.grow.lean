/-! a row that grows by a gate tells the same of the wires before it -/
theorem hv_all {r : Nat → Int32} (hw : WFc r) {w : Nat} (h1 : w < NW r) : r (32 + w) = nI (hv r w) ∧ hv r w ≤ 4 ∧ (0 < hv r w → NI r ≤ w) := by
  by_cases hi : w < NI r
  · have e := (hw.2.2.2.2.1 w hi).2
    have e0 : hv r w = 0 := by show nn (r (32 + w)) = 0; rw [e]; rfl
    rw [e0]
    exact ⟨e, by omega, by omega⟩
  · obtain ⟨-, g1, g2, g3, g4, g5, g6, g7, g8⟩ := hw.gate (w := w) (by omega) h1
    exact ⟨g3, g7, fun _ => by omega⟩
def GS (r s : Nat → Int32) : Prop := s 0 = r 0 ∧ ∀ w, w < NW r → s (32 + w) = r (32 + w) ∧ ∀ k, k < 4 → s (56 + 4 * w + k) = r (56 + 4 * w + k)
theorem GS.at {r s : Nat → Int32} (h : GS r s) (hw : WFc r) {w : Nat} (h2 : w < NW r) : NI s = NI r ∧ hv s w = hv r w ∧ ∀ k, k < hv r w → op s w k = op r w k := by
  have hh := hv_all hw h2
  refine ⟨by show nn (s 0) = nn (r 0); rw [h.1], by show nn (s (32 + w)) = nn (r (32 + w)); rw [(h.2 w h2).1], fun k hk => ?_⟩
  show nn (s (56 + 4 * w + k)) = nn (r (56 + 4 * w + k))
  rw [(h.2 w h2).2 k (by omega)]
theorem lev_gs {r s : Nat → Int32} (hw : WFc r) (h : GS r s) : ∀ n w, w < n → w < NW r → lev s w = lev r w
  | 0, w, hn, _ => by omega
  | n + 1, w, hn, h2 => by
    obtain ⟨e0, eh, eo⟩ := h.at hw h2
    by_cases h1 : w < NI r
    · rw [lev_in h1, lev_in (by rw [e0]; exact h1)]
    · obtain ⟨h24, g1, g2, g3, g4, g5, g6, g7, g8⟩ := hw.gate (w := w) (by omega) h2
      rw [lev_at hw h1 h2]
      show ev (levF s) w = _
      rw [ev_at, levF, if_neg (by rw [e0]; exact h1), eh]
      refine mxf_cong _ (fun k hk => ?_)
      have ho := (g8 k hk).2
      rw [eo k hk, evs_ev _ ho]
      have := lev_gs hw h n (op r w k) (by omega) (by omega)
      show lev s (op r w k) + 1 = _
      rw [this]
theorem bel_gs {r s : Nat → Int32} (hw : WFc r) (h : GS r s) : ∀ n w, w < n → w < NW r → bel s w = bel r w
  | 0, w, hn, _ => by omega
  | n + 1, w, hn, h2 => by
    obtain ⟨e0, eh, eo⟩ := h.at hw h2
    by_cases h1 : w < NI r
    · rw [bel_in h1, bel_in (by rw [e0]; exact h1)]
    · obtain ⟨h24, g1, g2, g3, g4, g5, g6, g7, g8⟩ := hw.gate (w := w) (by omega) h2
      rw [bel_at hw h1 h2]
      show ev (belF s) w = _
      rw [ev_at, belF, if_neg (by rw [e0]; exact h1), eh]
      refine orf_cong _ (fun k hk => ?_)
      have ho := (g8 k hk).2
      rw [eo k hk, evs_ev _ ho]
      have := bel_gs hw h n (op r w k) (by omega) (by omega)
      show bel s (op r w k) ||| _ = _
      rw [this]
theorem use_gs {r s : Nat → Int32} (hw : WFc r) (h : GS r s) (w : Nat) : ∀ n, n ≤ NW r → useN s w n = useN r w n
  | 0, _ => rfl
  | n + 1, hn => by
    obtain ⟨e0, eh, eo⟩ := h.at hw (w := n) (by omega)
    show useN s w n + _ = useN r w n + _
    rw [use_gs hw h w n (by omega), e0]
    by_cases h1 : n < NI r
    · rw [if_pos h1, if_pos h1]
    · rw [if_neg h1, if_neg h1, eh, opc_cong _ (fun k hk => eo k hk)]
