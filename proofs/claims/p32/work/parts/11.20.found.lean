/-! the class: for each test of the lanes the faults that it finds -/
/-- the question ask finds fault f -/
def FB (r : Nat → Int32) (ask : Nat → Nat) (f : Nat) : Bool := decide (FNo r ask f = 2)
theorem FB_apart (r : Nat → Int32) (ask : Nat → Nat) (f : Nat) : FB r ask f = true ↔ apartN (bad r ask 0) (bad r ask (f + 1)) r (NO r) := by
  unfold FB FNo
  rw [decide_eq_true_iff, bad_0]
  exact (foundN_is _ _ _ _).1
theorem x_apart0 {r : Nat → Int32} (hw : WFc r) {W : Nat} (hW : W = 1 ∨ W = 4) {vC vR : Vs} (hC : RC r vC) (h4 : vR.1 4 = nI W) {ask : Nat → Nat → Nat} (ha : ∀ l i, i < NI r → ask l i ≤ 2) {k : Nat} (hk : k < W) (hR : RW r vR W k ask) {f : Nat} (hf : f < NF r) :
    Ok (f_X3_apart (342 * W) vR vC (-1 : Int32) (nI f) (nI k)) (fun x => ∀ l, l < 64 → bJ x l = FB r (ask l) f) := by
  refine ok_imp (x_apart hw hW hC h4 ha hk hR (p := 0) (q := f + 1) (by omega) (by omega)) (fun x hx l hl => ?_)
  have h1 := hx l hl
  rw [← FB_apart] at h1
  cases hb : bJ x l <;> cases hq : FB r (ask l) f
  · rfl
  · rw [hb, hq] at h1
    exact absurd (h1.mpr rfl) (by decide)
  · rw [hb, hq] at h1
    exact absurd (h1.mp rfl) (by decide)
  · rfl
/-- of v only the long row k has changed -/
def FJ (k : Nat) (v v' : Vs) : Prop := v'.1 = v.1 ∧ v'.2.1 = v.2.1 ∧ ∀ j, j ≠ k → v'.2.2 j = v.2.2 j
theorem FJ.rf (k : Nat) (v : Vs) : FJ k v v := ⟨rfl, rfl, fun _ _ => rfl⟩
theorem FJ.set {k : Nat} {v v' : Vs} (h : FJ k v v') (i : Nat) (x : Int64) : FJ k v (sJ v' k i x) := ⟨h.1, h.2.1, fun j hj => (z_sJ3 v' k i x hj).trans (h.2.2 j hj)⟩
theorem bit1 (y : Int64) {l f : Nat} (hl : l < 64) (hf : f < 64) (j : Nat) (hj : j < 64) : bJ ((lus y (nI l) &&& 1) <<< ((nI f).toInt64 &&& 63)) j = (decide (j = f) && bJ y l) := by
  rw [bJ_shl _ hf, bJ_and, bJ_lus _ hl, bJ_1]
  by_cases h : j = f
  · subst h
    simp [hj]
  · by_cases h2 : j < f
    · simp [h, h2]
    · have : ¬ j - f = 0 := by omega
      simp [h, this]
theorem x_listFound_t {r : Nat → Int32} (hw : WFc r) {vF vC vR : Vs} (hC : RC r vC) (h4 : vR.1 4 = nI 1) {ask : Nat → Nat → Nat} {n : Nat} (hn0 : n ≤ 16) (hnW : n ≤ 64 * 1) (ha : ∀ N i, i < NI r → ask N i ≤ 2) (hR : ∀ k, 64 * k < n → RW r vR 1 k (fun l => ask (64 * k + l))) :
    Ok (f_X7_listFound_t vF vC 342 vR (nI n)) (fun q => FJ 9 vF q.2 ∧ (∀ j f, j < n → f < 64 → bJ (q.2.2.2 9 j) f = (decide (f < NF r) && FB r (ask j) f)) ∧ ∀ f, f < 64 → (bJ q.1 f = true ↔ ∃ j, j < n ∧ bJ (q.2.2.2 9 j) f = true)) := by
  have hn := hw.nf
  unfold f_X7_listFound_t
  refine ok_o1e (x_faultCount hC) ?_
  refine zl2 (I := fun m x v => ∃ i, x = nI i ∧ i ≤ n ∧ m = n - i ∧ FJ 9 vF v ∧ ∀ j, j < i → v.2.2 9 j = 0) ?_ FU n _ _ (by unfold FU; omega) ⟨0, rfl, by omega, by omega, FJ.rf _ _, fun j hj => by omega⟩
  rintro m x v self ⟨i, rfl, hle, rfl, hF, hz⟩ ih
  unfold f_X7_listFound_t_L18
  by_cases hb : n ≤ i
  · rw [ift hb (by omega)]
    clear ih
    refine zl3 (I := fun m y x v => ∃ b, x = nI (64 * b) ∧ m = 1 - b ∧ b ≤ 1 ∧ FJ 9 vF v ∧ (∀ j f, j < n → f < 64 → bJ (v.2.2 9 j) f = (decide (j < 64 * b) && (decide (f < NF r) && FB r (ask j) f))) ∧ ∀ f, f < 64 → (bJ y f = true ↔ ∃ j, j < n ∧ bJ (v.2.2 9 j) f = true)) ?_ FU 1 _ _ _ (by unfold FU; omega) ⟨0, rfl, by omega, by omega, hF, fun j f hj hf => by rw [hz j (by omega), bJ_0]; simp, fun f hf => by
      rw [bJ_0]
      constructor
      · intro h; cases h
      · rintro ⟨j, hj, h⟩
        rw [hz j (by omega), bJ_0] at h
        cases h⟩
    clear hz hF self v i hb hle
    rintro m y x v self ⟨b, rfl, rfl, hbW, hF, hs, hy⟩ ih
    unfold f_X7_listFound_t_L38
    by_cases hb : n ≤ 64 * b
    · rw [ift hb (by omega)]
      refine ok_some ⟨hF, fun j f hj hf => ?_, hy⟩
      rw [hs j f hj hf]
      have : j < 64 * b := by omega
      simp [this]
    · rw [iff_ hb (by omega)]
      refine ok_bn ?_
      have hhere : (if (64 : Int32) < nI n - nI (64 * b) then (64 : Int32) else nI n - nI (64 * b)) = nI (if 64 < n - 64 * b then 64 else n - 64 * b) := by
        rw [z_l64, z_sub (by omega)]
        by_cases h : 64 < n - 64 * b
        · rw [ilt h (by omega), if_pos h]
        · rw [ilf h (by omega), if_neg h]
      rw [hhere]
      obtain ⟨e, he⟩ : ∃ e, e = (if 64 < n - 64 * b then 64 else n - 64 * b) := ⟨_, rfl⟩
      rw [← he]
      have he1 : e ≤ 64 ∧ 64 * b + e ≤ n ∧ (e = 64 ∨ 64 * b + e = n) := by
        by_cases h : 64 < n - 64 * b
        · rw [if_pos h] at he; omega
        · rw [if_neg h] at he; omega
      refine zl3 (I := fun m y x v => ∃ f, x = nI f ∧ f ≤ NF r ∧ m = NF r - f ∧ FJ 9 vF v ∧ (∀ j g, j < n → g < 64 → bJ (v.2.2 9 j) g = ((decide (j < 64 * b) || (decide (j < 64 * b + e) && decide (g < f))) && (decide (g < NF r) && FB r (ask j) g))) ∧ ∀ g, g < 64 → (bJ y g = true ↔ ∃ j, j < n ∧ bJ (v.2.2 9 j) g = true)) ?_ FU (NF r) _ _ _ (by unfold FU; omega) ⟨0, rfl, by omega, by omega, hF, fun j g hj hg => by rw [hs j g hj hg]; simp, hy⟩
      clear hs hy hF v y
      rintro m y x v self2 ⟨f, rfl, hle, rfl, hF, hs, hy⟩ ih2
      unfold f_X7_listFound_t_L58
      by_cases hb2 : NF r ≤ f
      · rw [ift hb2 (by omega), z_l64, nI_add]
        refine ih _ _ _ _ ?_ ⟨b + 1, congrArg nI (by omega), rfl, by omega, hF, fun j g hj hg => ?_, hy⟩
        · omega
        · rw [hs j g hj hg]
          have ef : f = NF r := by omega
          subst ef
          by_cases c1 : g < NF r
          · by_cases c2 : j < 64 * b
            · have : j < 64 * (b + 1) := by omega
              simp [c1, c2, this]
            · by_cases c3 : j < 64 * b + e
              · have : j < 64 * (b + 1) := by omega
                simp [c1, c2, c3, this]
              · have : ¬ j < 64 * (b + 1) := by omega
                simp [c2, c3, this]
          · simp [c1]
      · rw [iff_ hb2 (by omega), z_l64]
        refine ok_gd (z_nz (by omega) (by omega)) ?_
        rw [z_div (by omega) (by omega), show 64 * b / 64 = b by omega]
        refine ok_o1 (x_apart0 hw (W := 1) (by omega) hC h4 (ask := fun l => ask (64 * b + l)) (fun l i hi => ha _ i hi) (k := b) (by omega) (hR b (by omega)) (f := f) (by omega)) ?_
        intro z hzl
        refine zl3 (I := fun m y x v => ∃ l, x = nI l ∧ l ≤ e ∧ m = e - l ∧ FJ 9 vF v ∧ (∀ j g, j < n → g < 64 → bJ (v.2.2 9 j) g = ((decide (j < 64 * b) || (decide (j < 64 * b + l) && decide (g < f + 1)) || (decide (j < 64 * b + e) && decide (g < f))) && (decide (g < NF r) && FB r (ask j) g))) ∧ ∀ g, g < 64 → (bJ y g = true ↔ ∃ j, j < n ∧ bJ (v.2.2 9 j) g = true)) ?_ FU e _ _ _ (by unfold FU; omega) ⟨0, rfl, by omega, by omega, hF, fun j g hj hg => by
          rw [hs j g hj hg]
          by_cases c2 : j < 64 * b
          · simp [c2]
          · simp [c2], hy⟩
        clear hs hy hF v y
        rintro m y x v self3 ⟨l, rfl, hle3, rfl, hF, hs, hy⟩ ih3
        unfold f_X7_listFound_t_L89
        by_cases hb3 : e ≤ l
        · rw [ift hb3 (by omega), z_l1, nI_add]
          refine ih2 _ _ _ _ (by omega) ⟨f + 1, rfl, by omega, rfl, hF, fun j g hj hg => ?_, hy⟩
          rw [hs j g hj hg]
          have el : l = e := by omega
          subst el
          by_cases c1 : g < f
          · have : g < f + 1 := by omega
            by_cases c2 : j < 64 * b <;> by_cases c3 : j < 64 * b + l <;> simp [c1, c2, c3, this]
          · by_cases c2 : j < 64 * b <;> by_cases c3 : j < 64 * b + l <;> simp [c1, c2, c3]
        · rw [iff_ hb3 (by omega)]
          refine ok_bn ?_
          rw [nI_add]
          refine ok_gd (z_inb (by omega) (by omega)) ?_
          refine ok_gd (z_inb (by omega) (by omega)) ?_
          refine ok_bn ?_
          rw [z_cl (by omega), z_l1, nI_add]
          have hbit := fun g (hg : g < 64) => bit1 z (l := l) (f := f) (by omega) (by omega) g hg
          have hzb : bJ z l = FB r (ask (64 * b + l)) f := hzl l (by omega)
          generalize (lus z (nI l) &&& 1) <<< ((nI f).toInt64 &&& 63) = w at hbit ⊢
          refine ih3 _ _ _ _ (by omega) ⟨l + 1, rfl, by omega, rfl, hF.set _ _, fun j g hj hg => ?_, fun g hg => ?_⟩
          · rw [z_sJ2]
            by_cases c0 : j = 64 * b + l
            · rw [z_v1 _ _ c0, bJ_or, hbit g hg, ← c0, hs j g hj hg, hzb, ← c0]
              have d1 : ¬ j < 64 * b := by omega
              have d2 : ¬ j < 64 * b + l := by omega
              have d3 : j < 64 * b + (l + 1) := by omega
              have d4 : j < 64 * b + e := by omega
              by_cases c1 : g = f
              · subst c1
                have d5 : g < NF r := by omega
                simp [d1, d2, d3, d4, d5]
              · by_cases c2 : g < f
                · have : g < f + 1 := by omega
                  simp [d1, d2, d3, d4, c1, c2, this]
                · have : ¬ g < f + 1 := by omega
                  simp [d1, d2, d3, d4, c1, c2, this]
            · rw [z_v2 _ _ c0, hs j g hj hg]
              by_cases c2 : j < 64 * b + l
              · have : j < 64 * b + (l + 1) := by omega
                simp [c2, this]
              · have : ¬ j < 64 * b + (l + 1) := by omega
                simp [c2, this]
          · rw [bJ_or, Bool.or_eq_true, hy g hg]
            constructor
            · rintro (⟨j, hj, h⟩ | h)
              · refine ⟨j, hj, ?_⟩
                rw [z_sJ2]
                by_cases c0 : j = 64 * b + l
                · rw [z_v1 _ _ c0, bJ_or, ← c0, h]
                  rfl
                · rw [z_v2 _ _ c0]
                  exact h
              · refine ⟨64 * b + l, by omega, ?_⟩
                rw [z_sJ2, z_v1 _ _ rfl, bJ_or, h, Bool.or_true]
            · rintro ⟨j, hj, h⟩
              rw [z_sJ2] at h
              by_cases c0 : j = 64 * b + l
              · rw [z_v1 _ _ c0, bJ_or, Bool.or_eq_true, ← c0] at h
                rcases h with h | h
                · exact Or.inl ⟨j, hj, h⟩
                · exact Or.inr h
              · rw [z_v2 _ _ c0] at h
                exact Or.inl ⟨j, hj, h⟩
  · rw [iff_ hb (by omega)]
    refine ok_gd (z_inb (by omega) (by omega)) ?_
    refine ok_bn ?_
    rw [z_cl (by omega), z_l1, nI_add]
    refine ih _ _ _ (by omega) ⟨i + 1, rfl, by omega, rfl, hF.set _ _, fun j hj => ?_⟩
    rw [z_sJ2]
    by_cases hj2 : j = i
    · rw [z_v1 _ _ hj2]
    · rw [z_v2 _ _ hj2]
      exact hz j (by omega)
