/-! complete -/
theorem FB_DF {r : Nat → Int32} (hw : WFc r) {f : Nat} (hf : f < NF r) (N : Nat) : FB r (fq N) f = DF r (f + 1) 0 N := by
  have h := (FB_apart r (fq N) f).trans (apart_DF hw (p := 0) (q := f + 1) (by omega) (by omega) N)
  rw [DF_comm]
  cases h1 : FB r (fq N) f
  · cases h2 : DF r 0 (f + 1) N
    · rfl
    · rw [h.mpr h2] at h1
      cases h1
  · rw [h.mp h1]
theorem y_foundFull {r : Nat → Int32} (hw : WFc r) {vF vC vRT vG vRF vGF vBF : Vs} (hC : RC r vC) (hF : FI r vF vRT vG vRF) :
    ∃ vF' vRF' vGF' vBF', f_X7_listFoundByFull vF vC 1368 vRF vGF vBF = some (vF', vRF', vGF', vBF') ∧ FI r vF' vRT vG vRF' ∧ vF'.2.1 = vF.2.1 ∧ (∀ j, j ≠ 11 → vF'.2.2 j = vF.2.2 j) ∧ (∀ N f, N < 2 ^ NI r → f < 64 → bJ (vF'.2.2 11 N) f = (decide (f < NF r) && DF r (f + 1) 0 N)) := by
  have hn := hw.nf
  have hfl := fulls_256 hw
  obtain ⟨vF1, vRF', vGF', vBF', e, hF', hFR, k1, -, -⟩ := y_refreshFull hw (vGF := vGF) (vBF := vBF) hC hF
  obtain ⟨⟨all, vF2⟩, e2, ⟨j1, j2, j3⟩, hb, -⟩ := x_listFound_f hw (vF := vF1) hC hF'.2.2.2.1 (ask := fq) (n := 2 ^ NI r) (by omega) (by omega) (fun N i hi => by have := fq_1 N i; omega) (fun k hk => hFR k (by have := fwords_4 hw; omega))
  have j1 : vF2.1 = vF1.1 := j1
  have j2 : vF2.2.1 = vF1.2.1 := j2
  refine ⟨vF2, vRF', vGF', vBF', ?_, ⟨fun q => hF'.1 (by rw [← j1]; exact q), fun q => hF'.2.1 (by rw [← j1]; exact q), hF'.2.2.1, hF'.2.2.2.1, fun j hj => by rw [j2]; exact hF'.2.2.2.2 j hj⟩, by rw [j2, k1], fun j hj => by rw [← k1]; exact j3 j hj, fun N f h1 h2 => ?_⟩
  · unfold f_X7_listFoundByFull
    rw [e, z_o4, hC.1.1, z_l1, g_shl _ (by omega), e2, z_o2]
  · rw [hb N f h1 h2]
    by_cases c : f < NF r
    · rw [FB_DF hw c]
    · simp [c]
/-- the newly found, and the best -/
def gN (r : Nat → Int32) (L : Nat → Bool) (N : Nat) : Nat := cnt (fun f => L f && DF r (f + 1) 0 N) (NF r)
def bsN (g : Nat → Nat) : Nat → Int32 × Nat
  | 0 => (im1, 0)
  | n + 1 => if g n ≤ (bsN g n).2 then bsN g n else (nI n, g n)
theorem bsN_le {g : Nat → Nat} {m : Nat} (h : ∀ k, g k ≤ m) : ∀ n, (bsN g n).2 ≤ m
  | 0 => Nat.zero_le _
  | n + 1 => by
    show (if g n ≤ (bsN g n).2 then bsN g n else (nI n, g n)).2 ≤ m
    split
    · exact bsN_le h n
    · exact h n
theorem bsN_or (g : Nat → Nat) : ∀ n, (bsN g n).1 = im1 ∨ ∃ k, k < n ∧ (bsN g n).1 = nI k
  | 0 => Or.inl rfl
  | n + 1 => by
    show (if g n ≤ (bsN g n).2 then bsN g n else (nI n, g n)).1 = im1 ∨ ∃ k, k < n + 1 ∧ (if g n ≤ (bsN g n).2 then bsN g n else (nI n, g n)).1 = nI k
    split
    · rcases bsN_or g n with h | ⟨k, h1, h2⟩
      · exact Or.inl h
      · exact Or.inr ⟨k, by omega, h2⟩
    · exact Or.inr ⟨n, by omega, rfl⟩
theorem gN_le {r : Nat → Int32} (hw : WFc r) (L : Nat → Bool) (N : Nat) : gN r L N ≤ 56 := by
  have hn := hw.nf
  have := cnt_le (fun f => L f && DF r (f + 1) 0 N) (NF r)
  unfold gN
  omega
theorem x_best {r : Nat → Int32} (hw : WFc r) {vF vC : Vs} (hC : RC r vC) (hb : ∀ N f, N < 2 ^ NI r → f < 64 → bJ (vF.2.2 11 N) f = (decide (f < NF r) && DF r (f + 1) 0 N)) {left : Int64} {L : Nat → Bool} (hL : ∀ f, f < NF r → bJ left f = L f) : f_X7_bestFullTest vF vC left = some (bsN (gN r L) (2 ^ NI r)).1 := by
  have hn := hw.nf
  have hfl := fulls_256 hw
  refine ok_get ?_
  unfold f_X7_bestFullTest
  refine zl3 (I := fun m x y z => ∃ k, x = (bsN (gN r L) k).1 ∧ y = nI (bsN (gN r L) k).2 ∧ z = nI k ∧ k ≤ 2 ^ NI r ∧ m = 2 ^ NI r - k) ?_ FU (2 ^ NI r) _ _ _ (by unfold FU; omega) ⟨0, rfl, rfl, rfl, by omega, by omega⟩
  rintro m x y z self ⟨k, rfl, rfl, rfl, hle, rfl⟩ ih
  unfold f_X7_bestFullTest_L22
  rw [hC.1.1, z_l1, g_shl _ (by omega)]
  by_cases hk : 2 ^ NI r ≤ k
  · rw [ift hk (by omega)]
    have : k = 2 ^ NI r := by omega
    subst this
    exact ok_some rfl
  · rw [iff_ hk (by omega)]
    refine ok_gd (z_inb (by omega) (by omega)) ?_
    have ec : f_J13_bitCount_95d88 (vF.2.2 11 (nI k).toNatClampNeg &&& left) = some (nI (gN r L k)) := by
      rw [x_bitCount, z_cl (by omega)]
      refine congrArg some (congrArg nI ?_)
      unfold gN
      rw [cnt_cut (m := NF r) 64 (by omega) (fun f h1 h2 => by
        rw [bJ_and, hb k f (by omega) h2]
        have : ¬ f < NF r := by omega
        simp [this])]
      refine cnt_cong _ (fun f hf => ?_)
      rw [bJ_and, hb k f (by omega) (by omega), hL f hf]
      simp [hf, Bool.and_comm]
    refine ok_o1e ec ?_
    have g56 := gN_le hw L k
    have b56 := bsN_le (gN_le hw L) k
    rw [nI_add, z_jn]
    have es : bsN (gN r L) (k + 1) = if gN r L k ≤ (bsN (gN r L) k).2 then bsN (gN r L) k else (nI k, gN r L k) := rfl
    by_cases hc : gN r L k ≤ (bsN (gN r L) k).2
    · rw [ift hc (by omega)]
      rw [if_pos hc] at es
      exact ih _ _ _ _ (by omega) ⟨k + 1, by rw [es], by rw [es], rfl, by omega, rfl⟩
    · rw [iff_ hc (by omega)]
      rw [if_neg hc] at es
      exact ih _ _ _ _ (by omega) ⟨k + 1, by rw [es], by rw [es], rfl, by omega, rfl⟩
/-- all that a change of many steps keeps -/
def KQ (n : Nat) (v v' : Vs) : Prop := v'.1 = v.1 ∧ v'.2.1 11 = v.2.1 11 ∧ ∀ m, m < 9 → m ≠ n → ∀ k, k < 440 → v'.2.1 1 (440 * m + k) = v.2.1 1 (440 * m + k)
theorem KQ.rf (n : Nat) (v : Vs) : KQ n v v := ⟨rfl, rfl, fun _ _ _ _ _ => rfl⟩
theorem KQ.tr {n : Nat} {a b c : Vs} (h : KQ n a b) (h2 : KQ n b c) : KQ n a c := ⟨h2.1.trans h.1, h2.2.1.trans h.2.1, fun m hm hne k hk => (h2.2.2 m hm hne k hk).trans (h.2.2 m hm hne k hk)⟩
theorem KQ.kr {n : Nat} {a b : Vs} (h : KR n a b) : KQ n a b := ⟨h.1, h.2.1 11 (by decide), h.2.2⟩
theorem KQ.sc {l : List Nat} {n : Nat} {a b : Vs} (h : SC l a b) (h1 : 1 ∉ l) (h2 : 11 ∉ l) : KQ n a b := ⟨h.1, h.2 11 h2, fun m _ _ k _ => by rw [h.2 1 h1]⟩
theorem HX.kq {v v' : Vs} {n : Nat} {h : Hv} (hx : HX v n h) (hn : n < 9) (hk : KQ n v v') : HX v' n h := by
  obtain ⟨u, x, a, b, c, d, e, f⟩ := hx
  refine ⟨u, x, by rw [hk.1]; exact a, b, c, d, e, fun j h1 h2 => ?_⟩
  rw [rwv_eq (fun k hk' => hk.2.2 _ (by omega) (by omega) k hk')]
  exact f j h1 h2
/-- the tests counted by the reference, one full test -/
theorem h_gain {v : Vs} {n : Nat} {r s : Nat → Int32} (h : MS v n s) (hws : WFc s) (hw : WFc r) (eF : NF s = NF r) (hl : LY v r) {N : Nat} (hN : N < 2 ^ NI r) (x3 x4 : Int32) (self26 : Int32 → Int32 → Int32 → Option (Int32 × Vs)) {Q : Int32 × Vs → Prop}
    (hq : Ok (jn (fun (a b : Int32) => self26 a b (nI N + (1 : Int32))) (fun k67 => if x4 < nI (gN r (fun f => decide (v.2.1 9 f = nI 0)) N) then k67 (nI N) (nI (gN r (fun f => decide (v.2.1 9 f = nI 0)) N)) else k67 x3 x4)) Q) :
    Ok (lp (f_X8_complete_L57 v x3 x4 (nI N) self26) (fun _ _ => none) FU (0 : Int32) (0 : Int32)) Q := by
  have hn := hw.nf
  have hfl := fulls_256 hw
  refine zl2 (I := fun m x y => ∃ f, x = nI (cnt (fun f => decide (v.2.1 9 f = nI 0) && DF r (f + 1) 0 N) f) ∧ y = nI f ∧ f ≤ NF r ∧ m = NF r - f) ?_ FU (NF r) _ _ (by unfold FU; omega) ⟨0, rfl, rfl, by omega, by omega⟩
  rintro m x y self ⟨f, rfl, rfl, hle, rfl⟩ ih
  have hcl := cnt_le (fun f => decide (v.2.1 9 f = nI 0) && DF r (f + 1) 0 N) f
  unfold f_X8_complete_L57
  have gF := g_faults h hws
  rw [eF] at gF
  refine ok_o1e gF ?_
  by_cases hb : NF r ≤ f
  · rw [ift hb (by omega)]
    have : f = NF r := by omega
    subst this
    exact hq
  · rw [iff_ hb (by omega)]
    have hin : inb (nI f) 56 = true := z_inb (by omega) (by omega)
    refine ok_gd hin ?_
    have ec : cnt (fun f => decide (v.2.1 9 f = nI 0) && DF r (f + 1) 0 N) (f + 1) = cnt (fun f => decide (v.2.1 9 f = nI 0) && DF r (f + 1) 0 N) f + (if decide (v.2.1 9 f = nI 0) && DF r (f + 1) 0 N then 1 else 0) := rfl
    have ec0 : (decide (v.2.1 9 f = nI 0) && DF r (f + 1) 0 N) = false → Ok (self (nI (cnt (fun f => decide (v.2.1 9 f = nI 0) && DF r (f + 1) 0 N) f) + 0) (nI f + 1)) Q := fun q => by
      rw [q, if_neg (by decide)] at ec
      rw [z_l0, nI_add, z_l1, nI_add, Nat.add_zero]
      refine ih _ _ _ (by omega) ⟨f + 1, ?_, rfl, by omega, rfl⟩
      rw [ec, Nat.add_zero]
    have ec1 : (decide (v.2.1 9 f = nI 0) && DF r (f + 1) 0 N) = true → Ok (self (nI (cnt (fun f => decide (v.2.1 9 f = nI 0) && DF r (f + 1) 0 N) f) + 1) (nI f + 1)) Q := fun q => by
      rw [q, if_pos rfl] at ec
      rw [z_l1, nI_add, nI_add]
      refine ih _ _ _ (by omega) ⟨f + 1, ?_, rfl, by omega, rfl⟩
      rw [ec]
    have l1 := hl N hN (f + 1) (by omega)
    have l0 := hl N hN 0 (by omega)
    rw [show ix (f + 1) = f from rfl] at l1
    rw [show 256 * ix 0 + N = 14336 + N from rfl] at l0
    have w1 := BW_64 hw (p := f + 1) (N := N) (by omega)
    have w0 := BW_64 hw (p := 0) (N := N) (by omega)
    rw [z_jn, z_jn, z_cl (by omega)]
    by_cases c9 : v.2.1 9 f = nI 0
    · have e9 : decide (v.2.1 9 f = nI 0) = true := decide_eq_true c9
      rw [if_pos (show v.2.1 9 f = 0 from c9), z_l256, z_l14336, z_mul, nI_add, nI_add]
      refine ok_gd (z_inb (by omega) (by omega)) ?_
      refine ok_gd (z_inb (by omega) (by omega)) ?_
      rw [z_cl (by omega), z_cl (by omega), l1, l0]
      by_cases cd : BW r (f + 1) N = BW r 0 N
      · rw [iet cd]
        refine ec0 ?_
        unfold DF
        simp [cd]
      · rw [ief cd (by omega) (by omega)]
        refine ec1 ?_
        unfold DF
        simp [cd, c9]
    · rw [if_neg (show ¬ v.2.1 9 f = 0 from c9)]
      refine ec0 ?_
      simp [c9]
