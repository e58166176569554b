/-! a circuit as the reference's row tells it; its values -/
def nn (x : Int32) : Nat := x.toNatClampNeg
theorem nn_nI {n : Nat} (h : n < 2147483648) : nn (nI n) = n := z_cl h
abbrev NI (r : Nat → Int32) : Nat := nn (r 0)
abbrev NW (r : Nat → Int32) : Nat := nn (r 1)
abbrev NO (r : Nat → Int32) : Nat := nn (r 2)
abbrev NB (r : Nat → Int32) : Nat := nn (r 3)
abbrev NT (r : Nat → Int32) : Nat := nn (r 4)
def kd (r : Nat → Int32) (w : Nat) : Nat := nn (r (8 + w))
def hv (r : Nat → Int32) (w : Nat) : Nat := nn (r (32 + w))
def op (r : Nat → Int32) (w k : Nat) : Nat := nn (r (56 + 4 * w + k))
def ou (r : Nat → Int32) (o : Nat) : Nat := nn (r (152 + o))
def bk (r : Nat → Int32) (b : Nat) : Nat := nn (r (158 + 3 * b))
def ba (r : Nat → Int32) (b : Nat) : Nat := nn (r (158 + 3 * b + 1))
def bb (r : Nat → Int32) (b : Nat) : Nat := nn (r (158 + 3 * b + 2))
def tv (r : Nat → Int32) (t i : Nat) : Nat := nn (r (182 + 8 * t + i))
def sn (r : Nat → Int32) (t o : Nat) : Nat := nn (r (310 + 6 * t + o))
def few (k : Nat) : Nat := if k = 8 then 3 else if k = 6 then 1 else if k = 7 then 1 else 2
def mst (k : Nat) : Nat := if k = 8 then 3 else if k = 6 then 1 else if k = 7 then 1 else 4
/-- gates, outputs, bridges -/
def WFc (r : Nat → Int32) : Prop :=
  (r 0 = nI (NI r) ∧ 1 ≤ NI r ∧ NI r ≤ 8) ∧ (r 1 = nI (NW r) ∧ NI r ≤ NW r ∧ NW r ≤ NI r + 16) ∧ (r 2 = nI (NO r) ∧ NO r ≤ 6) ∧ (r 3 = nI (NB r) ∧ NB r ≤ 8) ∧
  (∀ w, w < NI r → r (8 + w) = im1 ∧ r (32 + w) = nI 0) ∧
  (∀ w, NI r ≤ w → w < NW r → (r (8 + w) = nI (kd r w) ∧ kd r w ≤ 8) ∧ r (32 + w) = nI (hv r w) ∧ few (kd r w) ≤ hv r w ∧ hv r w ≤ mst (kd r w)) ∧
  (∀ w k, NI r ≤ w → w < NW r → k < hv r w → r (56 + 4 * w + k) = nI (op r w k) ∧ op r w k < w) ∧
  (∀ o, o < NO r → r (152 + o) = nI (ou r o) ∧ ou r o < NW r) ∧
  (∀ b, b < NB r → (r (158 + 3 * b) = nI (bk r b) ∧ bk r b ≤ 1) ∧ (r (158 + 3 * b + 1) = nI (ba r b) ∧ ba r b < NW r) ∧ (r (158 + 3 * b + 2) = nI (bb r b) ∧ bb r b < NW r))
/-- tests and what was seen -/
def WFt (r : Nat → Int32) : Prop :=
  (r 4 = nI (NT r) ∧ NT r ≤ 16) ∧ (∀ t i, t < NT r → i < NI r → r (182 + 8 * t + i) = nI (tv r t i) ∧ tv r t i ≤ 2) ∧
  (∀ t o, t < NT r → o < 6 → r (310 + 6 * t + o) = nI (sn r t o) ∧ sn r t o ≤ 2)
theorem few_1 (k : Nat) : 1 ≤ few k := by unfold few; (repeat' split) <;> omega
theorem mst_4 (k : Nat) : mst k ≤ 4 := by unfold mst; (repeat' split) <;> omega
-- values
def tn (v : Nat) : Nat := if v = 2 then 2 else 1 - v
def dc (a b d : Nat) : Nat := if a = d then d else if b = d then d else if a = 2 then 2 else if b = 2 then 2 else 1 - d
def xo (a b : Nat) : Nat := if a = 2 then 2 else if b = 2 then 2 else if a = b then 0 else 1
def st2 (k a b : Nat) : Nat := if k = 4 then xo a b else if k = 5 then xo a b else if k = 0 then dc a b 0 else if k = 2 then dc a b 0 else dc a b 1
def gfold (k : Nat) (f : Nat → Nat) : Nat → Nat
  | 0 => f 0
  | n + 1 => st2 k (gfold k f n) (f (n + 1))
def mx (a b c : Nat) : Nat := if a = 0 then b else if a = 1 then c else if b = c then b else 2
def fin2 (k v : Nat) : Nat := if k = 2 then tn v else if k = 3 then tn v else if k = 5 then tn v else v
def gval (r : Nat → Int32) (w : Nat) (c : Nat → Nat) : Nat :=
  if kd r w = 6 then tn (c (op r w 0)) else if kd r w = 7 then c (op r w 0) else if kd r w = 8 then mx (c (op r w 0)) (c (op r w 1)) (c (op r w 2))
  else fin2 (kd r w) (gfold (kd r w) (fun k => c (op r w k)) (hv r w - 1))
theorem tn_2 {v : Nat} (h : v ≤ 2) : tn v ≤ 2 := by unfold tn; split <;> omega
theorem dc_2 {a b d : Nat} (hd : d ≤ 1) : dc a b d ≤ 2 := by unfold dc; (repeat' split) <;> omega
theorem xo_2 (a b : Nat) : xo a b ≤ 2 := by unfold xo; (repeat' split) <;> omega
theorem st2_2 (k a b : Nat) : st2 k a b ≤ 2 := by
  unfold st2
  repeat' split
  all_goals first | exact xo_2 _ _ | exact dc_2 (by omega)
theorem gfold_2 (k : Nat) {f : Nat → Nat} (h : f 0 ≤ 2) (n : Nat) : gfold k f n ≤ 2 := by
  cases n with
  | zero => exact h
  | succ n => exact st2_2 _ _ _
theorem fin2_2 {k v : Nat} (h : v ≤ 2) : fin2 k v ≤ 2 := by
  unfold fin2
  repeat' split
  all_goals first | exact tn_2 h | exact h
theorem mx_2 {a b c : Nat} (hb : b ≤ 2) (hc : c ≤ 2) : mx a b c ≤ 2 := by unfold mx; (repeat' split) <;> omega
theorem gval_2 {r : Nat → Int32} {w : Nat} {c : Nat → Nat} (h : ∀ k, k < hv r w → c (op r w k) ≤ 2) (h1 : few (kd r w) ≤ hv r w) : gval r w c ≤ 2 := by
  have h0 := h 0 (by have := few_1 (kd r w); omega)
  unfold gval
  split
  · exact tn_2 h0
  · split
    · exact h0
    · split
      · rename_i h8
        have e : few (kd r w) = 3 := by rw [h8]; rfl
        exact mx_2 (h 1 (by omega)) (h 2 (by omega))
      · exact fin2_2 (gfold_2 _ h0 _)
theorem gfold_cong {k : Nat} {f g : Nat → Nat} : ∀ n, (∀ j, j ≤ n → f j = g j) → gfold k f n = gfold k g n
  | 0, h => h 0 (Nat.le_refl 0)
  | n + 1, h => by
    show st2 k (gfold k f n) (f (n + 1)) = st2 k (gfold k g n) (g (n + 1))
    rw [gfold_cong n (fun j hj => h j (by omega)), h (n + 1) (Nat.le_refl _)]
theorem gval_cong {r : Nat → Int32} {w : Nat} {c d : Nat → Nat} (h : ∀ k, k < hv r w → c (op r w k) = d (op r w k)) (h1 : few (kd r w) ≤ hv r w) : gval r w c = gval r w d := by
  have h2 := few_1 (kd r w)
  have h0 := h 0 (by omega)
  unfold gval
  rw [h0]
  split
  · rfl
  · split
    · rfl
    · split
      · rename_i h8
        have e : few (kd r w) = 3 := by rw [h8]; rfl
        rw [h 1 (by omega), h 2 (by omega)]
      · rw [gfold_cong (hv r w - 1) (fun j hj => h j (by omega))]
-- evaluation wire by wire
def evs (F : Nat → (Nat → Nat) → Nat) : Nat → Nat → Nat
  | 0 => fun _ => 0
  | n + 1 => fun j => if j = n then F n (evs F n) else evs F n j
def ev (F : Nat → (Nat → Nat) → Nat) (w : Nat) : Nat := evs F (w + 1) w
theorem evs_ev (F : Nat → (Nat → Nat) → Nat) {n j : Nat} (h : j < n) : evs F n j = ev F j := by
  induction n with
  | zero => omega
  | succ n ih =>
    rcases Nat.lt_or_ge j n with q | q
    · rw [← ih q]
      show (if j = n then _ else evs F n j) = _
      rw [if_neg (by omega)]
    · have : j = n := by omega
      subst this
      rfl
theorem ev_at (F : Nat → (Nat → Nat) → Nat) (w : Nat) : ev F w = F w (evs F w) := by
  show (if w = w then F w (evs F w) else _) = _
  rw [if_pos rfl]
def goodF (r : Nat → Int32) (ask : Nat → Nat) (w : Nat) (c : Nat → Nat) : Nat := if w < NI r then ask w else gval r w c
def good (r : Nat → Int32) (ask : Nat → Nat) : Nat → Nat := ev (goodF r ask)
/-- what a fault tells of a wire; 0 is none, f + 1 is fault f -/
def told (r : Nat → Int32) (ask : Nat → Nat) (p w : Nat) : Option Nat :=
  if p = 0 then none else
  if p - 1 < 2 * NW r then (if (p - 1) / 2 = w then some ((p - 1) % 2) else none) else
  if w = ba r (p - 1 - 2 * NW r) ∨ w = bb r (p - 1 - 2 * NW r) then some (dc (good r ask (ba r (p - 1 - 2 * NW r))) (good r ask (bb r (p - 1 - 2 * NW r))) (if bk r (p - 1 - 2 * NW r) = 0 then 0 else 1)) else none
def badF (r : Nat → Int32) (ask : Nat → Nat) (p w : Nat) (c : Nat → Nat) : Nat := match told r ask p w with
  | some v => v
  | none => goodF r ask w c
def bad (r : Nat → Int32) (ask : Nat → Nat) (p : Nat) : Nat → Nat := ev (badF r ask p)
theorem good_in {r : Nat → Int32} {ask : Nat → Nat} {w : Nat} (h : w < NI r) : good r ask w = ask w := by
  unfold good
  rw [ev_at, goodF, if_pos h]
theorem good_at {r : Nat → Int32} (hw : WFc r) {ask : Nat → Nat} {w : Nat} (h : ¬ w < NI r) (h2 : w < NW r) : good r ask w = gval r w (good r ask) := by
  obtain ⟨-, -, -, -, -, hk, ho, -⟩ := hw
  have h3 := hk w (by omega) h2
  unfold good
  rw [ev_at, goodF, if_neg h]
  exact gval_cong (fun k hk => evs_ev _ (ho w k (by omega) h2 hk).2) h3.2.2.1
theorem bad_some {r : Nat → Int32} {ask : Nat → Nat} {p w v : Nat} (h : told r ask p w = some v) : bad r ask p w = v := by
  unfold bad
  rw [ev_at, badF, h]
theorem bad_in {r : Nat → Int32} {ask : Nat → Nat} {p w : Nat} (h : told r ask p w = none) (h1 : w < NI r) : bad r ask p w = ask w := by
  unfold bad
  rw [ev_at, badF, h]
  show goodF r ask w _ = _
  rw [goodF, if_pos h1]
theorem bad_at {r : Nat → Int32} (hw : WFc r) {ask : Nat → Nat} {p w : Nat} (h0 : told r ask p w = none) (h : ¬ w < NI r) (h2 : w < NW r) : bad r ask p w = gval r w (bad r ask p) := by
  obtain ⟨-, -, -, -, -, hk, ho, -⟩ := hw
  have h3 := hk w (by omega) h2
  unfold bad
  rw [ev_at, badF, h0]
  show goodF r ask w _ = _
  rw [goodF, if_neg h]
  exact gval_cong (fun k hk => evs_ev _ (ho w k (by omega) h2 hk).2) h3.2.2.1
theorem bad_0 (r : Nat → Int32) (ask : Nat → Nat) : bad r ask 0 = good r ask := by
  have h : badF r ask 0 = goodF r ask := by
    funext w c
    rfl
  unfold bad good
  rw [h]
theorem good_2 {r : Nat → Int32} (hw : WFc r) {ask : Nat → Nat} (ha : ∀ i, i < NI r → ask i ≤ 2) : ∀ n w, w < n → w < NW r → good r ask w ≤ 2
  | 0, w, h, _ => by omega
  | n + 1, w, h, h2 => by
    by_cases h1 : w < NI r
    · rw [good_in h1]; exact ha w h1
    · rw [good_at hw h1 h2]
      have h3 := hw.2.2.2.2.2.1 w (by omega) h2
      exact gval_2 (fun k hk => have h4 := (hw.2.2.2.2.2.2.1 w k (by omega) h2 hk).2; good_2 hw ha n _ (by omega) (by omega)) h3.2.2.1
theorem told_2 {r : Nat → Int32} (hw : WFc r) {ask : Nat → Nat} {p w v : Nat} (h : told r ask p w = some v) : v ≤ 2 := by
  unfold told at h
  split at h
  · cases h
  · split at h
    · split at h
      · cases h; omega
      · cases h
    · split at h
      · cases h
        refine dc_2 ?_
        split <;> omega
      · cases h
theorem bad_2 {r : Nat → Int32} (hw : WFc r) {ask : Nat → Nat} (ha : ∀ i, i < NI r → ask i ≤ 2) (p : Nat) : ∀ n w, w < n → w < NW r → bad r ask p w ≤ 2
  | 0, w, h, _ => by omega
  | n + 1, w, h, h2 => by
    cases h0 : told r ask p w with
    | some v => rw [bad_some h0]; exact told_2 hw h0
    | none =>
      by_cases h1 : w < NI r
      · rw [bad_in h0 h1]; exact ha w h1
      · rw [bad_at hw h0 h1 h2]
        have h3 := hw.2.2.2.2.2.1 w (by omega) h2
        exact gval_2 (fun k hk => have h4 := (hw.2.2.2.2.2.2.1 w k (by omega) h2 hk).2; bad_2 hw ha p n _ (by omega) (by omega)) h3.2.2.1
theorem bad_0' (r : Nat → Int32) (ask : Nat → Nat → Nat) {o : Nat} : (fun l => bad r (ask l) 0 (ou r o)) = fun l => good r (ask l) (ou r o) := by
  funext l
  rw [bad_0]
