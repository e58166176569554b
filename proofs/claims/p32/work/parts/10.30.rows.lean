/-! the class: rows of all outputs, fault by fault -/
def idx (W p o k : Nat) : Nat := (p * 6 + o) * W + k
theorem idx_lt {W p o k : Nat} (hW : W = 1 ∨ W = 4) (hp : p < 57) (ho : o < 6) (hk : k < W) : idx W p o k < 342 * W := by
  unfold idx
  rcases hW with rfl | rfl <;> omega
theorem idx_inj {W p o k q u j : Nat} (hW : W = 1 ∨ W = 4) (ho : o < 6) (hk : k < W) (hu : u < 6) (hj : j < W) (h : idx W p o k = idx W q u j) : p = q ∧ o = u ∧ k = j := by
  unfold idx at h
  rcases hW with rfl | rfl <;> omega
theorem fI_1 (p : Nat) (hp : p < 1000) : fI p + nI 1 = nI p := by
  unfold fI
  split
  · rename_i h
    rw [h]
    rfl
  · rw [nI_add]
    exact congrArg nI (by omega)
theorem x_rowOf {W nR : Nat} {vR : Vs} (h4 : vR.1 4 = nI W) {p o k : Nat} (hp : p < 1000) : f_X3_rowOf nR vR (fI p) (nI o) (nI k) = some (nI (idx W p o k)) := by
  unfold f_X3_rowOf
  rw [h4, z_l1, fI_1 p hp, z_l6, z_mul, nI_add, z_mul, nI_add]
  rfl
def RRow (v : Vs) (j : Nat) (f : Nat → Nat) : Prop := ∀ l, l < 64 → bJ (v.2.2 2 j) l = decide (f l = 0) ∧ bJ (v.2.2 3 j) l = decide (f l = 1)
theorem RRow.same {v v' : Vs} {j : Nat} {f : Nat → Nat} (h : RRow v j f) (e : v'.2.2 2 j = v.2.2 2 j ∧ v'.2.2 3 j = v.2.2 3 j) : RRow v' j f := fun l hl => by
  rw [e.1, e.2]
  exact h l hl
theorem RRow.cong {v : Vs} {j : Nat} {f g : Nat → Nat} (h : RRow v j f) (e : ∀ l, l < 64 → f l = g l) : RRow v j g := fun l hl => by
  rw [← e l hl]
  exact h l hl
theorem x_store {r : Nat → Int32} (hw : WFc r) {W : Nat} (hW : W = 1 ∨ W = 4) {vC vR vL : Vs} (hC : RC r vC) (h4 : vR.1 4 = nI W) {g : Nat → Nat → Nat} (hL : ∀ w, w < NW r → LW vL w (g w)) {p k : Nat} (hp : p ≤ NF r) (hk : k < W) :
    Ok (f_X3_store (342 * W) vR vC vL (fI p) (nI k)) (fun v' => v'.1 = vR.1 ∧ v'.2.1 = vR.2.1 ∧ (∀ o, o < NO r → RRow v' (idx W p o k) (g (ou r o))) ∧ ∀ j, (∀ o, o < NO r → j ≠ idx W p o k) → v'.2.2 2 j = vR.2.2 2 j ∧ v'.2.2 3 j = vR.2.2 3 j) := by
  have hn := hw.nf
  have hW4 : W ≤ 4 := by omega
  unfold f_X3_store
  refine zl2 (I := fun m x v' => ∃ o, x = nI o ∧ o ≤ NO r ∧ m = NO r - o ∧ v'.1 = vR.1 ∧ v'.2.1 = vR.2.1 ∧ (∀ u, u < o → RRow v' (idx W p u k) (g (ou r u))) ∧ ∀ j, (∀ o, o < NO r → j ≠ idx W p o k) → v'.2.2 2 j = vR.2.2 2 j ∧ v'.2.2 3 j = vR.2.2 3 j) ?_ FU (NO r) _ _ (by unfold FU; omega) ⟨0, rfl, by omega, by omega, rfl, rfl, fun u hu => by omega, fun j _ => ⟨rfl, rfl⟩⟩
  rintro m x v' self ⟨o, rfl, hle, rfl, f1, f2, hz, hy⟩ ih
  unfold f_X3_store_L3
  rw [hC.1.2.2.1]
  by_cases hb : NO r ≤ o
  · rw [ift hb (by omega)]
    exact ok_some ⟨f1, f2, fun u hu => hz u (by omega), hy⟩
  · rw [iff_ hb (by omega)]
    have h4' : v'.1 4 = nI W := by rw [f1]; exact h4
    have hi := idx_lt hW (p := p) (o := o) (k := k) (by omega) (by omega) hk
    have ho := (hC.2.2.2.2.1 o (by omega)).trans (hw.2.2.2.2.2.2.2.1 o (by omega)).1
    have ho2 := (hw.2.2.2.2.2.2.2.1 o (by omega)).2
    have hLo := hL _ ho2
    refine ok_o1e (x_rowOf h4' (by omega)) ?_
    simp (disch := omega) only [z_gt, z_o1, z_o2, z_o3, z_o4, z_o5, z_o6, z_o7, z_o8, z_o9, z_bn, z_jn, nI_add, z_mul, z_sub, z_div, Nat.not_lt_zero, z_cl, z_le, z_lt, z_eq, z_inb, z_nz, z_isB0, z_notJ, z_notI, z_isB1, z_m1, z_pos, z_pos', z_nlt, z_nle', z_m1le, z_m1a, z_nle, z_sI0, z_sI1, z_sI2, z_sI3, z_sJ0, z_sJ1, z_sJ2, z_sJ3, z_sF0, z_sF1, z_sF2, z_sA0, z_sA1, z_sA2, z_sA3, z_sAA, z_sIA, ↓reduceIte, Nat.reduceEqDiff, Nat.reduceLeDiff, Nat.reduceLT, z_l0, z_l1, z_l2, z_l3, z_l4, z_l5, z_l6, z_l7, z_l8, z_l9, z_l10, z_l11, z_l12, z_l13, z_l14, z_l15, z_l16, z_l17, z_l18, z_l19, z_l20, z_l21, z_l22, z_l23, z_l24, z_l25, z_l26, z_l27, z_l28, z_l32, z_l48, z_l56, z_l57, z_l59, z_l63, z_l64, z_l96, z_l97, z_l122, z_l127, z_l152, z_l158, z_l182, z_l255, z_l256, z_l310, z_l342, z_l406, z_l440, z_l729, z_l800, z_l3960, z_l14336, z_l14592, z_l100000, ho]
    refine ih _ _ _ (by omega) ⟨o + 1, rfl, by omega, rfl, f1, f2, fun u hu => ?_, fun j hj => ?_⟩
    · by_cases hu2 : u = o
      · subst hu2
        intro l hl
        rw [z_sJ3 _ _ _ _ (by decide), z_sJ2, z_sJ2, z_v1 _ _ rfl, z_v1 _ _ rfl]
        exact hLo l hl
      · have hne : idx W p u k ≠ idx W p o k := fun q => hu2 (idx_inj hW (by omega) hk (by omega) hk q).2.1
        refine (hz u (by omega)).same ⟨?_, ?_⟩
        · rw [z_sJ3 _ _ _ _ (by decide), z_sJ2, z_v2 _ _ hne]
        · rw [z_sJ2, z_v2 _ _ hne, z_sJ3 _ _ _ _ (by decide)]
    · have hne := hj o (by omega)
      obtain ⟨y1, y2⟩ := hy j hj
      refine ⟨?_, ?_⟩
      · rw [z_sJ3 _ _ _ _ (by decide), z_sJ2, z_v2 _ _ hne, y1]
      · rw [z_sJ2, z_v2 _ _ hne, z_sJ3 _ _ _ _ (by decide), y2]
/-- word k of the rows tells all faults' outputs for the questions ask -/
def RW (r : Nat → Int32) (v : Vs) (W k : Nat) (ask : Nat → Nat → Nat) : Prop := ∀ p, p ≤ NF r → ∀ o, o < NO r → RRow v (idx W p o k) (fun l => bad r (ask l) p (ou r o))
theorem x_faultCount {r : Nat → Int32} {vC : Vs} (hC : RC r vC) : f_X0_faultCount vC = some (nI (NF r)) := by
  unfold f_X0_faultCount
  rw [hC.1.2.1, hC.1.2.2.2, z_l2, z_mul, nI_add]
theorem x_work {r : Nat → Int32} (hw : WFc r) {W : Nat} (hW : W = 1 ∨ W = 4) {vC vR vG vB : Vs} (hC : RC r vC) (h4 : vR.1 4 = nI W) {ask : Nat → Nat → Nat} (ha : ∀ l i, i < NI r → ask l i ≤ 2) (hL : ∀ w, w < NI r → LW vG w (fun l => ask l w)) {k : Nat} (hk : k < W) :
    Ok (f_X3_work (342 * W) vR vG vB vC (nI k)) (fun q => q.1.1 = vR.1 ∧ RW r q.1 W k ask ∧ (∀ ask' k', k' < W → k' ≠ k → RW r vR W k' ask' → RW r q.1 W k' ask') ∧ ∀ w, w < NW r → LW q.2.1 w (fun l => good r (ask l) w)) := by
  have hn := hw.nf
  -- what a store at word k keeps
  have keep : ∀ v v' : Vs, ∀ p, (∀ j, (∀ o, o < NO r → j ≠ idx W p o k) → v'.2.2 2 j = v.2.2 2 j ∧ v'.2.2 3 j = v.2.2 3 j) → ∀ q o k', k' < W → o < NO r → (k' ≠ k ∨ q ≠ p) → ∀ f, RRow v (idx W q o k') f → RRow v' (idx W q o k') f := by
    intro v v' p hp q o k' hk' ho hne f hf
    refine hf.same (hp _ (fun o' ho' e => ?_))
    obtain ⟨e1, -, e3⟩ := idx_inj hW (by omega) hk' (by omega) hk e
    rcases hne with z | z
    · exact z e3
    · exact z e1
  unfold f_X3_work
  refine ok_o1e (x_faultCount hC) ?_
  refine ok_o1 (x_runGates hw hC ha hL) ?_
  rintro vG1 ⟨-, -, hG⟩
  refine ok_o1 (x_store hw hW hC h4 hG (p := 0) (by omega) hk) ?_
  rintro vR1 ⟨t1, -, hS, hT⟩
  refine zl3 (I := fun m x vr vb => ∃ f, x = nI f ∧ f ≤ NF r ∧ m = NF r - f ∧ vr.1 = vR.1 ∧ (∀ p, p ≤ f → ∀ o, o < NO r → RRow vr (idx W p o k) (fun l => bad r (ask l) p (ou r o))) ∧ ∀ ask' k', k' < W → k' ≠ k → RW r vR W k' ask' → RW r vr W k' ask') ?_ FU (NF r) _ _ _ (by unfold FU; omega) ⟨0, rfl, by omega, by omega, t1, fun p hp o ho => ?_, fun ask' k' hk' hne hR p hp o ho => keep _ _ 0 hT p o k' hk' ho (Or.inl hne) _ (hR p hp o ho)⟩
  · rintro m x vr vb self ⟨f, rfl, hle, rfl, f1, hz, hy⟩ ih
    unfold f_X3_work_L27
    by_cases hb : NF r ≤ f
    · rw [ift hb (by omega)]
      exact ok_some ⟨f1, fun p hp o ho => hz p (by omega) o ho, hy, hG⟩
    · rw [iff_ hb (by omega)]
      refine ok_o1 (x_runFault hw hC ha hG (f := f) (by omega)) ?_
      rintro vb1 ⟨-, -, hB⟩
      have h4' : vr.1 4 = nI W := by rw [f1]; exact h4
      refine ok_o1 (x_store hw hW hC h4' hB (p := f + 1) (by omega) hk) ?_
      rintro vr1 ⟨s1, -, hS1, hT1⟩
      rw [z_l1, nI_add]
      refine ih _ _ _ _ (by omega) ⟨f + 1, rfl, by omega, rfl, s1.trans f1, fun p hp o ho => ?_, fun ask' k' hk' hne hR p hp o ho => keep _ _ (f + 1) hT1 p o k' hk' ho (Or.inl hne) _ (hy ask' k' hk' hne hR p hp o ho)⟩
      by_cases hp2 : p = f + 1
      · subst hp2
        exact hS1 o ho
      · exact keep _ _ (f + 1) hT1 p o k hk ho (Or.inr hp2) _ (hz p (by omega) o ho)
  · have e : p = 0 := by omega
    subst e
    rw [bad_0' r ask]
    exact hS o ho
theorem x_apart {r : Nat → Int32} (hw : WFc r) {W : Nat} (hW : W = 1 ∨ W = 4) {vC vR : Vs} (hC : RC r vC) (h4 : vR.1 4 = nI W) {ask : Nat → Nat → Nat} (ha : ∀ l i, i < NI r → ask l i ≤ 2) {k : Nat} (hk : k < W) (hR : RW r vR W k ask) {p q : Nat} (hp : p ≤ NF r) (hq : q ≤ NF r) :
    Ok (f_X3_apart (342 * W) vR vC (fI p) (fI q) (nI k)) (fun x => ∀ l, l < 64 → (bJ x l = true ↔ apartN (bad r (ask l) p) (bad r (ask l) q) r (NO r))) := by
  have hn := hw.nf
  have hW4 : W ≤ 4 := by omega
  unfold f_X3_apart
  refine zl2 (I := fun m x y => ∃ o, y = nI o ∧ o ≤ NO r ∧ m = NO r - o ∧ ∀ l, l < 64 → (bJ x l = true ↔ apartN (bad r (ask l) p) (bad r (ask l) q) r o)) ?_ FU (NO r) _ _ (by unfold FU; omega) ⟨0, rfl, by omega, by omega, fun l _ => ?_⟩
  · rintro m x y self ⟨o, rfl, hle, rfl, hz⟩ ih
    unfold f_X3_apart_L6
    rw [hC.1.2.2.1]
    by_cases hb : NO r ≤ o
    · rw [ift hb (by omega)]
      have e : o = NO r := by omega
      subst e
      exact ok_some hz
    · rw [iff_ hb (by omega)]
      have hi := idx_lt hW (p := p) (o := o) (k := k) (by omega) (by omega) hk
      have hj := idx_lt hW (p := q) (o := o) (k := k) (by omega) (by omega) hk
      refine ok_o1e (x_rowOf h4 (by omega)) ?_
      refine ok_o1e (x_rowOf h4 (by omega)) ?_
      simp (disch := omega) only [z_gt, z_o1, z_o2, z_o3, z_o4, z_o5, z_o6, z_o7, z_o8, z_o9, z_bn, z_jn, nI_add, z_mul, z_sub, z_div, Nat.not_lt_zero, z_cl, z_le, z_lt, z_eq, z_inb, z_nz, z_isB0, z_notJ, z_notI, z_isB1, z_m1, z_pos, z_pos', z_nlt, z_nle', z_m1le, z_m1a, z_nle, z_sI0, z_sI1, z_sI2, z_sI3, z_sJ0, z_sJ1, z_sJ2, z_sJ3, z_sF0, z_sF1, z_sF2, z_sA0, z_sA1, z_sA2, z_sA3, z_sAA, z_sIA, ↓reduceIte, Nat.reduceEqDiff, Nat.reduceLeDiff, Nat.reduceLT, z_l0, z_l1, z_l2, z_l3, z_l4, z_l5, z_l6, z_l7, z_l8, z_l9, z_l10, z_l11, z_l12, z_l13, z_l14, z_l15, z_l16, z_l17, z_l18, z_l19, z_l20, z_l21, z_l22, z_l23, z_l24, z_l25, z_l26, z_l27, z_l28, z_l32, z_l48, z_l56, z_l57, z_l59, z_l63, z_l64, z_l96, z_l97, z_l122, z_l127, z_l152, z_l158, z_l182, z_l255, z_l256, z_l310, z_l342, z_l406, z_l440, z_l729, z_l800, z_l3960, z_l14336, z_l14592, z_l100000]
      refine ih _ _ _ (by omega) ⟨o + 1, rfl, by omega, rfl, fun l hl => ?_⟩
      obtain ⟨a1, a2⟩ : bJ (vR.2.2 2 (idx W p o k)) l = decide (bad r (ask l) p (ou r o) = 0) ∧ bJ (vR.2.2 3 (idx W p o k)) l = decide (bad r (ask l) p (ou r o) = 1) := hR p hp o (by omega) l hl
      obtain ⟨b1, b2⟩ : bJ (vR.2.2 2 (idx W q o k)) l = decide (bad r (ask l) q (ou r o) = 0) ∧ bJ (vR.2.2 3 (idx W q o k)) l = decide (bad r (ask l) q (ou r o) = 1) := hR q hq o (by omega) l hl
      have ho2 := (hw.2.2.2.2.2.2.2.1 o (by omega)).2
      have p1 := bad_2 hw (fun i hi => ha l i hi) p (ou r o + 1) _ (by omega) ho2
      have p2 := bad_2 hw (fun i hi => ha l i hi) q (ou r o + 1) _ (by omega) ho2
      have hs : apartN (bad r (ask l) p) (bad r (ask l) q) r (o + 1) ↔ apartN (bad r (ask l) p) (bad r (ask l) q) r o ∨ (bad r (ask l) p (ou r o) ≠ 2 ∧ bad r (ask l) q (ou r o) ≠ 2 ∧ bad r (ask l) p (ou r o) ≠ bad r (ask l) q (ou r o)) := by
        constructor
        · rintro ⟨u, hu, z⟩
          by_cases e : u = o
          · rw [e] at z; exact Or.inr z
          · exact Or.inl ⟨u, by omega, z⟩
        · rintro (⟨u, hu, z⟩ | z)
          · exact ⟨u, by omega, z⟩
          · exact ⟨o, by omega, z⟩
      rw [hs, ← hz l hl, bJ_or, bJ_or, bJ_and, bJ_and, a1, a2, b1, b2, Bool.or_eq_true]
      generalize bad r (ask l) p (ou r o) = y1 at p1 ⊢
      generalize bad r (ask l) q (ou r o) = y2 at p2 ⊢
      have q1 : y1 = 0 ∨ y1 = 1 ∨ y1 = 2 := by omega
      have q2 : y2 = 0 ∨ y2 = 1 ∨ y2 = 2 := by omega
      rcases q1 with rfl | rfl | rfl <;> rcases q2 with rfl | rfl | rfl <;> simp
  · rw [bJ_0]
    constructor
    · intro h; cases h
    · rintro ⟨u, hu, _⟩; omega
