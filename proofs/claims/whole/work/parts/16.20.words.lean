/-! words: the class's isWord, the reference's here and takes -/
def wl (i : Nat) : Nat := lenS.getD i 0
def wc (i k : Nat) : Nat := ((bytS.getD i []).getD k 0).toNatClampNeg
def WS : List Nat := [1, 2, 3, 4, 6, 8, 9, 11, 12, 16, 17, 19, 23, 24, 25]
set_option maxRecDepth 20000 in
theorem words : ∀ i, i ∈ WS → f_J0_length_8abf5 i = some (nI (wl i)) ∧ 0 < wl i ∧ wl i < 20 ∧ ∀ k, k < wl i → f_J0_charAt_5068e (nI k) i = some (nI (wc i k)) ∧ 97 ≤ wc i k ∧ wc i k ≤ 122 := by decide +kernel
/-- the letters from s on are the word i -/
def isW (B : Nat → Nat) (M s i : Nat) : Bool := decide (rn isLt B M s = s + wl i ∧ ∀ k, k < wl i → B (s + k) = wc i k)
theorem dg_lt {b : Nat} (h : isLt b = true) : isDg b = false := by
  unfold isLt at h
  unfold isDg
  rw [decide_eq_true_iff] at h
  rw [decide_eq_false_iff_not]
  omega
theorem isW_kind {B : Nat → Nat} {M s i : Nat} (hi : i ∈ WS) (h : isW B M s i = true) : tkind B M s = 1 ∧ tend B M s = s + wl i ∧ s < M := by
  obtain ⟨-, h0, -⟩ := words i hi
  unfold isW at h
  rw [decide_eq_true_iff] at h
  have hq : s < M ∧ isLt (B s) = true := by
    by_cases q : s < M ∧ isLt (B s) = true
    · exact q
    · have := rn_no q
      omega
  have hd := dg_lt hq.2
  unfold tkind tend
  rw [if_pos hq.1, if_pos hq.1, hd, if_neg Bool.false_ne_true, if_neg Bool.false_ne_true, if_pos hq.2, if_pos hq.2]
  exact ⟨rfl, h.1, hq.1⟩
theorem x_isWord {B : Nat → Nat} {M s : Nat} {v : Vs} (hB : DB B M v) (hT : TK B M v s) (hs : s ≤ M) {i : Nat} (hi : i ∈ WS) : f_X5_isWord v i = some (nI (if isW B M s i then 1 else 0)) := by
  obtain ⟨h5, h800, hb⟩ := hB
  obtain ⟨t8, t7, t6, -⟩ := hT
  obtain ⟨w1, w0, w20, wch⟩ := words i hi
  refine ok_get ?_
  unfold f_X5_isWord
  refine ok_jn ?_
  have no : isW B M s i = false → Ok (gd (isB (0 : Int32)) (some (0 : Int32))) (fun a => a = nI (if isW B M s i then 1 else 0)) := fun h => by
    rw [h]
    exact ok_gd (by decide) (ok_some rfl)
  have hk4 : tkind B M s ≤ 4 := by unfold tkind; (repeat' split) <;> omega
  rw [t7, z_l1]
  by_cases hk : tkind B M s = 1
  · rw [iet hk]
    refine ok_o1e w1 ?_
    have hq : s < M ∧ isLt (B s) = true ∧ tend B M s = rn isLt B M s := by
      unfold tkind at hk
      unfold tend
      by_cases a : s < M
      · rw [if_pos a] at hk ⊢
        by_cases b : isDg (B s) = true
        · rw [if_pos b] at hk; omega
        · rw [if_neg b] at hk ⊢
          by_cases c : isLt (B s) = true
          · rw [if_pos c] at hk ⊢
            exact ⟨a, c, rfl⟩
          · rw [if_neg c] at hk
            split at hk <;> omega
      · rw [if_neg a] at hk; omega
    obtain ⟨hq1, hq2, hq3⟩ := hq
    have hge := rn_ge isLt B M s
    have hle := rn_le isLt B hs
    rw [t6, t8, z_sub (by omega), hq3]
    by_cases hn : rn isLt B M s - s = wl i
    · rw [iet hn]
      refine zl1 (I := fun m x => ∃ k, x = nI k ∧ k ≤ wl i ∧ m = wl i - k ∧ ∀ j, j < k → B (s + j) = wc i j) ?_ FU (wl i) _ (by unfold FU; omega) ⟨0, rfl, by omega, by omega, fun j hj => by omega⟩
      rintro m x self ⟨k, rfl, hkl, rfl, hj⟩ ih
      unfold f_X5_isWord_L28
      refine ok_o1e w1 ?_
      refine ok_jn ?_
      by_cases hb2 : wl i ≤ k
      · rw [ift hb2 (by omega)]
        refine ok_gd (by decide) (ok_some ?_)
        have : isW B M s i = true := by
          unfold isW
          rw [decide_eq_true_iff]
          exact ⟨by omega, fun j h => hj j (by omega)⟩
        rw [this]
        rfl
      · rw [iff_ hb2 (by omega), h5, t8, nI_add, iff_ (by omega) (by omega)]
        refine ok_gd (z_inb (by omega) (by omega)) ?_
        obtain ⟨c1, c2, c3⟩ := wch k (by omega)
        refine ok_o1e c1 ?_
        rw [z_cl (by omega), (hb (s + k) (by omega)).1]
        have b256 := (hb (s + k) (by omega)).2
        by_cases hc : B (s + k) = wc i k
        · rw [iet hc, z_l1, nI_add]
          refine ih _ _ (by omega) ⟨k + 1, rfl, by omega, rfl, fun j hj2 => ?_⟩
          by_cases e : j = k
          · rw [e]; exact hc
          · exact hj j (by omega)
        · rw [ief hc (by omega) (by omega)]
          refine no ?_
          unfold isW
          rw [decide_eq_false_iff_not]
          exact fun h => hc (h.2 k (by omega))
    · rw [ief hn (by omega) (by omega)]
      refine no ?_
      unfold isW
      rw [decide_eq_false_iff_not]
      exact fun h => hn (by omega)
  · rw [ief hk (by omega) (by omega)]
    refine no ?_
    cases h : isW B M s i with
    | false => rfl
    | true => exact absurd (isW_kind hi h).1 hk
-- the reference
def DM (B : Nat → Nat) (M : Nat) (v : Vs) : Prop := v.1 13 = nI M ∧ M ≤ 800 ∧ ∀ i, i < M → v.2.1 11 i = nI (B i) ∧ B i < 256
/-- only the place has changed -/
def AT (v v' : Vs) (s : Nat) : Prop := v'.2 = v.2 ∧ v'.1 14 = nI s ∧ ∀ j, j ≠ 14 → v'.1 j = v.1 j
theorem DM.at {B : Nat → Nat} {M s : Nat} {v v' : Vs} (h : DM B M v) (ha : AT v v' s) : DM B M v' := ⟨by rw [ha.2.2 13 (by decide)]; exact h.1, h.2.1, fun i hi => by rw [ha.1]; exact h.2.2 i hi⟩
theorem AT.tr {a b c : Vs} {s t : Nat} (h : AT a b s) (h2 : AT b c t) : AT a c t := ⟨h2.1.trans h.1, h2.2.1, fun j hj => (h2.2.2 j hj).trans (h.2.2 j hj)⟩
theorem h_here {B : Nat → Nat} {M a : Nat} {v : Vs} (hB : DM B M v) (ha : v.1 14 = nI a) (haM : a ≤ M) : ∃ v', f_X8_here v = some (if rn isSp B M a < M then nI (B (rn isSp B M a)) else im1, v') ∧ AT v v' (rn isSp B M a) := by
  obtain ⟨h13, h800, hb⟩ := hB
  have key : Ok (f_X8_here v) (fun q => q.1 = (if rn isSp B M a < M then nI (B (rn isSp B M a)) else im1) ∧ AT v q.2 (rn isSp B M a)) := by
    unfold f_X8_here
    refine zl1 (I := fun m v' => ∃ q, v'.1 14 = nI q ∧ v'.2 = v.2 ∧ (∀ j, j ≠ 14 → v'.1 j = v.1 j) ∧ q ≤ M ∧ rn isSp B M q = rn isSp B M a ∧ m = M - q) ?_ FU (M - a) _ (by unfold FU; omega) ⟨a, ha, rfl, fun _ _ => rfl, haM, rfl, rfl⟩
    rintro m v' self ⟨q, e14, e2, ej, hq, hr, rfl⟩ ih
    have e13 : v'.1 13 = nI M := by rw [ej 13 (by decide)]; exact h13
    have eb : ∀ i, i < M → v'.2.1 11 i = nI (B i) := fun i hi => by rw [e2]; exact (hb i hi).1
    unfold f_X8_here_L0
    refine ok_jn ?_
    rw [e13, e14]
    by_cases c : M ≤ q
    · rw [ift c (by omega)]
      have es : rn isSp B M a = q := by rw [← hr]; exact rn_no (by omega)
      refine ok_jn ?_
      rw [ift c (by omega), es, if_neg (by omega)]
      exact ok_some ⟨rfl, e2, e14, ej⟩
    · rw [iff_ c (by omega)]
      refine ok_gd (z_inb (by omega) (by omega)) ?_
      rw [z_cl (by omega), eb q (by omega), z_l32]
      have b256 := (hb q (by omega)).2
      by_cases h32 : B q = 32
      · rw [iet h32]
        refine ok_bn ?_
        refine ih _ _ (show M - (q + 1) < M - q by omega) ⟨q + 1, ?_, e2, fun j hj => ?_, by omega, by rw [← hr, rn_go (show q < M by omega) (by unfold isSp; rw [h32]; rfl)], rfl⟩
        · rw [z_sF1, z_p1]
        · rw [z_sF2 _ _ _ hj]; exact ej j hj
      · rw [ief h32 (by omega) (by omega)]
        have es : rn isSp B M a = q := by rw [← hr]; exact rn_no (fun z => h32 (by have := z.2; unfold isSp at this; exact decide_eq_true_iff.mp this))
        refine ok_jn ?_
        rw [iff_ c (by omega)]
        refine ok_gd (z_inb (by omega) (by omega)) ?_
        rw [es, if_pos (by omega)]
        exact ok_some ⟨rfl, e2, e14, ej⟩
  obtain ⟨⟨x, v'⟩, e, hx, hA⟩ := key
  have hx : x = _ := hx
  rw [hx] at e
  exact ⟨v', e, hA⟩
theorem h_takes {B : Nat → Nat} {M a : Nat} {v : Vs} (hB : DM B M v) (ha : v.1 14 = nI a) (haM : a ≤ M) {i : Nat} (hi : i ∈ WS) : ∃ v', f_X8_takes v i = some (nI (if isW B M (rn isSp B M a) i then 1 else 0), v') ∧ AT v v' (if isW B M (rn isSp B M a) i then rn isSp B M a + wl i else rn isSp B M a) := by
  obtain ⟨v1, e1, A1⟩ := h_here hB ha haM
  have hB1 := hB.at A1
  obtain ⟨h13, h800, hb⟩ := hB1
  obtain ⟨w1, w0, w20, wch⟩ := words i hi
  obtain ⟨s, hs⟩ : ∃ s, s = rn isSp B M a := ⟨_, rfl⟩
  have hsM : s ≤ M := by rw [hs]; exact rn_le isSp B haM
  rw [← hs] at A1 ⊢
  have a14 := A1.2.1
  have key : Ok (f_X8_takes v i) (fun q => q.1 = nI (if isW B M s i then 1 else 0) ∧ AT v q.2 (if isW B M s i then s + wl i else s)) := by
    unfold f_X8_takes
    refine ok_o2e e1 ?_
    have no : isW B M s i = false → Ok (gd (isB (0 : Int32)) (some ((0 : Int32), v1))) (fun q => q.1 = nI (if isW B M s i then 1 else 0) ∧ AT v q.2 (if isW B M s i then s + wl i else s)) := fun h => by
      rw [h]
      exact ok_gd (by decide) (ok_some ⟨rfl, A1⟩)
    have hge := rn_ge isLt B M s
    have hle := rn_le isLt B hsM
    refine zl1 (I := fun m x => ∃ n, x = nI n ∧ s + n ≤ M ∧ m = M - (s + n) ∧ rn isLt B M (s + n) = rn isLt B M s) ?_ FU (M - s) _ (by unfold FU; omega) ⟨0, rfl, by omega, by omega, rfl⟩
    rintro m x self ⟨n, rfl, hnM, rfl, hn⟩ ih
    unfold f_X8_takes_L7
    refine ok_jn ?_
    have done : rn isLt B M (s + n) = s + n → Ok (o1 (f_J0_length_8abf5 i) (fun (r10 : Int32) => if nI n = r10 then lp (f_X8_takes_L55 i v1 (nI n)) (fun _ => none) FU (0 : Int32) else gd (isB (0 : Int32)) (some ((0 : Int32), v1)))) (fun q => q.1 = nI (if isW B M s i then 1 else 0) ∧ AT v q.2 (if isW B M s i then s + wl i else s)) := by
      intro h
      have hrn : rn isLt B M s = s + n := by rw [← hn, h]
      refine ok_o1e w1 ?_
      by_cases hl : n = wl i
      · rw [iet hl]
        refine zl1 (I := fun m x => ∃ k, x = nI k ∧ k ≤ n ∧ m = n - k ∧ ∀ j, j < k → B (s + j) = wc i j) ?_ FU n _ (by unfold FU; omega) ⟨0, rfl, by omega, by omega, fun j hj => by omega⟩
        rintro m x self2 ⟨k, rfl, hkn, rfl, hj⟩ ih2
        unfold f_X8_takes_L55
        by_cases hb2 : n ≤ k
        · rw [ift hb2 (by omega)]
          have hw : isW B M s i = true := by
            unfold isW
            rw [decide_eq_true_iff]
            exact ⟨by omega, fun j h => hj j (by omega)⟩
          refine ok_bn ?_
          rw [hw, if_pos rfl, if_pos rfl]
          refine ok_gd (by decide) (ok_some ⟨rfl, A1.1, ?_, fun j hj => ?_⟩)
          · rw [z_sF1, a14, nI_add, hl]
          · rw [z_sF2 _ _ _ hj]; exact A1.2.2 j hj
        · rw [iff_ hb2 (by omega), a14, nI_add]
          refine ok_gd (z_inb (by omega) (by omega)) ?_
          obtain ⟨c1, c2, c3⟩ := wch k (by omega)
          refine ok_o1e c1 ?_
          rw [z_cl (by omega), (hb (s + k) (by omega)).1]
          have b256 := (hb (s + k) (by omega)).2
          by_cases hc : B (s + k) = wc i k
          · rw [iet hc, z_l1, nI_add]
            refine ih2 _ _ (by omega) ⟨k + 1, rfl, by omega, rfl, fun j hj2 => ?_⟩
            by_cases e : j = k
            · rw [e]; exact hc
            · exact hj j (by omega)
          · rw [ief hc (by omega) (by omega)]
            refine no ?_
            unfold isW
            rw [decide_eq_false_iff_not]
            exact fun h => hc (h.2 k (by omega))
      · rw [ief hl (by omega) (by omega)]
        refine no ?_
        unfold isW
        rw [decide_eq_false_iff_not]
        exact fun h => hl (by omega)
    rw [h13, a14, nI_add]
    by_cases c : M ≤ s + n
    · rw [ift c (by omega)]
      exact done (rn_no (by omega))
    · rw [iff_ c (by omega)]
      refine ok_gd (z_inb (by omega) (by omega)) ?_
      rw [z_cl (by omega), (hb (s + n) (by omega)).1]
      have b256 := (hb (s + n) (by omega)).2
      refine ok_o1e (g_isLetter b256) ?_
      by_cases hl : isLt (B (s + n)) = true
      · rw [if_pos hl, if_neg (by decide), z_l1, nI_add]
        refine ih _ _ (show M - (s + (n + 1)) < M - (s + n) by omega) ⟨n + 1, rfl, by omega, rfl, by rw [← hn, rn_go (show s + n < M by omega) hl, Nat.add_assoc]⟩
      · rw [if_neg hl, if_pos (show nI 0 = (0 : Int32) from rfl)]
        exact done (rn_no (fun z => hl z.2))
  obtain ⟨⟨x, v'⟩, e, hx, hA⟩ := key
  have hx : x = _ := hx
  rw [hx] at e
  exact ⟨v', e, hA⟩
