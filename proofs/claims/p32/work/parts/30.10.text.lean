/-! builders: what is in them -/
theorem lp_1 {T : Type} (body : T → T) (b0 : T) : lp body b0 FU = body (lp body b0 999999) := rfl
def fitF (f : Nat → Int32) : Prop := ∀ j, fits .byte (.int (f j)) = true
theorem c_0 : (0 : Int32).toNatClampNeg = 0 := rfl
theorem fit_lit {n : Nat} (h : n < 128) : fits .byte (.int (nI n)) = true := by
  show (decide (-128 ≤ nI n) && decide (nI n ≤ 127)) = true
  rw [Bool.and_eq_true, decide_eq_true_eq, decide_eq_true_eq, Int32.le_iff_toInt_le, Int32.le_iff_toInt_le, nI_toInt (by omega)]
  have e1 : (-128 : Int32).toInt = -128 := by decide
  have e2 : (127 : Int32).toInt = 127 := by decide
  omega
theorem byte_lit : ∀ n, n < 128 → vp_nar .byte ((nI n).toInt8.toInt32) = nI n ∧ vp_nar .byte (nI n) = nI n := by decide +kernel
theorem fitA_of {f : Nat → Int32} (h : fitF f) (a n : Nat) : fitA f a n = true := List.all_eq_true.mpr (fun _ _ => h _)
theorem fit_cpy {f g : Nat → Int32} (hf : fitF f) (hg : fitF g) (a b n : Nat) : fitF (va_cpy f g a b n) := fun j => by
  unfold va_cpy
  split
  · exact hf _
  · exact hg _
theorem fit_upd {f : Nat → Int32} (hf : fitF f) (k : Nat) {x : Int32} (hx : fits .byte (.int x) = true) : fitF (upd f k x) := fun j => by
  unfold upd
  split
  · exact hx
  · exact hf _
theorem fit_0 : fitF (fun _ => 0) := fun _ => rfl
def CAPV (vV : Vs) (m : Nat) : Prop := vV.1 9 = nI m ∧ m ≤ 400 ∧ fitF (vV.2.1 0)
theorem CAPV.cl {vV : Vs} {m : Nat} (h : CAPV vV m) : (vV.1 9).toNatClampNeg = m := by
  have := h.2.1
  rw [h.1, nI_clamp (by omega)]
theorem e_copyOf {vV : Vs} {m L : Nat} (h : CAPV vV m) (h1 : m < L) (h2 : L ≤ 400) : Ok (f_J7_copyOf_9075b vV (nI L)) (fun v' => CAPV v' L ∧ ∀ j, j < m → v'.2.1 0 j = vV.2.1 0 j) := by
  have em := h.cl
  obtain ⟨a1, a2, a3⟩ := h
  unfold f_J7_copyOf_9075b
  rw [em]
  have cL : (nI L).toNatClampNeg = L := nI_clamp (by omega)
  have cm : (nI m).toNatClampNeg = m := nI_clamp (by omega)
  have e2 : (if nI L < nI m then nI L else nI m) = nI m := if_neg (nI_nlt (by omega) (by omega))
  refine ok_rw (if_neg (fun q => by have := (nI_eq (by omega) (by omega)).mp q; omega)) ?_
  refine ok_gd (decide_eq_true ⟨nI_pos (by omega), by omega, by omega, by omega⟩) ?_
  refine ok_bn ?_
  refine ok_gd (decide_eq_true ⟨by omega, by omega⟩) ?_
  refine ok_gd (by rw [e2, Bool.and_eq_true]; exact ⟨decide_eq_true ⟨by decide, by decide, nI_pos (by omega), by rw [c_0]; omega, by show (0 : Int32).toNatClampNeg + _ ≤ (nI L).toNatClampNeg; rw [c_0]; omega⟩, fitA_of a3 _ _⟩) ?_
  refine ok_bn ?_
  refine ok_gd (decide_eq_true ⟨by omega, by omega⟩) ?_
  refine ok_some ⟨⟨rfl, h2, ?_⟩, fun j hj => ?_⟩
  · rw [z_sA2]
    exact fit_cpy a3 fit_0 _ _ _
  · rw [z_sA2, e2, c_0, cm]
    unfold va_cpy
    rw [if_pos ⟨Nat.zero_le _, by omega⟩, Nat.zero_add, Nat.sub_zero]
theorem e_newLen {m q : Nat} (h1 : m < q) (h2 : q ≤ 190) : f_J8_newLength_cabcc (nI m) (nI (q - m)) (nI (m + 2)) = some (nI (m + (if q - m < m + 2 then m + 2 else q - m))) := by
  unfold f_J8_newLength_cabcc
  have e : (if nI (q - m) < nI (m + 2) then nI (m + 2) else nI (q - m)) = nI (if q - m < m + 2 then m + 2 else q - m) := by
    by_cases h : q - m < m + 2
    · rw [if_pos (nI_lt h (by omega)), if_pos h]
    · rw [if_neg (nI_nlt (by omega) (by omega)), if_neg h]
  have hb : (if q - m < m + 2 then m + 2 else q - m) ≤ 400 ∧ 1 ≤ (if q - m < m + 2 then m + 2 else q - m) := by split <;> omega
  rw [e, nI_add]
  generalize (if q - m < m + 2 then m + 2 else q - m) = d at hb
  have i1 : ¬ nI (m + d) ≤ (0 : Int32) := nI_nle (by omega) (by omega)
  have i2 : ¬ (2147483639 : Int32) < nI (m + d) := (nI_nlt (a := 2147483639) (b := m + d) (by omega) (by decide))
  rw [if_neg i1, if_neg i2]
theorem e_ensure {vU vV : Vs} {m q : Nat} (h : CAPV vV m) (hc : vU.1 1 = nI 0) (hq : q ≤ 190) : Ok (f_J5_ensureCapacityInternal_d00df vU vV (nI q)) (fun v' => ∃ m', CAPV v' m' ∧ q ≤ m' ∧ ∀ j, j < m → v'.2.1 0 j = vV.2.1 0 j) := by
  have em := h.cl
  have h4 := h.2.1
  have z0 : ∀ x : Int32, x <<< (nI 0 &&& 31) = x := sb_shl0
  have z1 : ∀ x : Int32, x >>> (nI 0 &&& 31) = x := sb_shr0
  unfold f_J5_ensureCapacityInternal_d00df
  rw [em, hc, z1]
  refine ok_jn ?_
  by_cases hle : q ≤ m
  · have i1 : nI q - nI m ≤ 0 := by
      rw [Int32.le_iff_toInt_le, pk_sub_toInt (by omega) (by omega), Int32.toInt_zero]
      omega
    refine ok_rw (if_pos i1) ?_
    refine ok_gd (decide_eq_true ⟨by omega, by omega⟩) ?_
    exact ok_some ⟨m, h, hle, fun _ _ => rfl⟩
  · have i1 : ¬ nI q - nI m ≤ 0 := by
      rw [Int32.le_iff_toInt_le, pk_sub_toInt (by omega) (by omega), Int32.toInt_zero]
      omega
    refine ok_rw (if_neg i1) ?_
    have eN : f_J5_newCapacity_0f7a4 vU vV (nI q) = some (nI (m + (if q - m < m + 2 then m + 2 else q - m))) := by
      have e2 : nI m + ((2 : Int32) <<< (nI 0 &&& 31)) = nI (m + 2) := by rw [z0]; exact nI_add m 2
      unfold f_J5_newCapacity_0f7a4
      rw [em, hc, z0, e2, z_sub (by omega), e_newLen (by omega) (by omega), z_o1, z1]
      refine if_neg (fun q9 => ?_)
      have := (nI_eq (by split <;> omega) (by decide : (2147483647 : Nat) < 2 ^ 31)).mp q9
      split at this <;> omega
    refine ok_o1e eN ?_
    refine ok_gd (by decide) ?_
    rw [z0]
    refine ok_o1 (e_copyOf h (L := m + (if q - m < m + 2 then m + 2 else q - m)) (by split <;> omega) (by split <;> omega)) (fun v' hv => ?_)
    refine ok_gd (by decide) ?_
    refine ok_some ⟨_, hv.1, by split <;> omega, hv.2⟩
/-- the builder holds the text T -/
def BS (vU vV : Vs) (T : List Nat) : Prop := vU.1 1 = nI 0 ∧ vU.1 3 = nI T.length ∧ T.length ≤ 190 ∧ (∃ m, CAPV vV m ∧ T.length ≤ m) ∧ (∀ j, j < T.length → vV.2.1 0 j = nI (T.getD j 0)) ∧ ∀ j, T.getD j 0 < 128
theorem getD_app (S T : List Nat) (j : Nat) : (S ++ T).getD j 0 = if j < S.length then S.getD j 0 else T.getD (j - S.length) 0 := by
  simp only [List.getD_eq_getElem?_getD]
  split
  · rw [List.getElem?_append_left (by assumption)]
  · rw [List.getElem?_append_right (by omega)]
theorem app_lt {S T : List Nat} (h1 : ∀ j, S.getD j 0 < 128) (h2 : ∀ j, T.getD j 0 < 128) (j : Nat) : (S ++ T).getD j 0 < 128 := by
  rw [getD_app]
  split
  · exact h1 _
  · exact h2 _
def wdS (i : Nat) : List Nat := (bytS.getD i []).map (fun x => x.toNatClampNeg)
theorem wd_is : ∀ i, i < 27 → lenS.getD i 0 = (wdS i).length ∧ (wdS i).length < 30 ∧ (∀ j, j < (wdS i).length → (bytS.getD i []).getD j 0 = nI ((wdS i).getD j 0) ∧ (wdS i).getD j 0 < 128) ∧ f_J0_length_8abf5 i = some (nI (lenS.getD i 0)) ∧ f_J0_coder_7d493 i = some (nI 0) := by decide +kernel
theorem wd_lt {i : Nat} (hi : i < 27) (j : Nat) : (wdS i).getD j 0 < 128 := by
  by_cases h : j < (wdS i).length
  · exact ((wd_is i hi).2.2.1 j h).2
  · rw [List.getD_eq_getElem?_getD, List.getElem?_eq_none (by omega)]
    decide
theorem wd_fit {i : Nat} (hi : i < 27) : fitF (fun j => (bytS.getD i []).getD j 0) := fun j => by
  obtain ⟨h1, h2, h3, -⟩ := wd_is i hi
  by_cases h : j < (wdS i).length
  · show fits .byte (.int ((bytS.getD i []).getD j 0)) = true
    rw [(h3 j h).1]
    exact fit_lit (h3 j h).2
  · have e : (bytS.getD i []).length = (wdS i).length := by simp [wdS]
    show fits .byte (.int ((bytS.getD i []).getD j 0)) = true
    rw [List.getD_eq_getElem?_getD (l := bytS.getD i []), List.getElem?_eq_none (by omega)]
    rfl
theorem b_appendK {vU vV : Vs} {T : List Nat} (h : BS vU vV T) {i : Nat} (hi : i < 27) (hl : T.length + (wdS i).length ≤ 190) : Ok (f_J4_append_15ec4_k vU vV i) (fun r => BS r.1 r.2 (T ++ wdS i)) := by
  obtain ⟨a1, a2, a3, ⟨m, a4, a5⟩, a6, a7⟩ := h
  obtain ⟨w1, w2, w3, w4, w5⟩ := wd_is i hi
  have wf := wd_fit hi
  have wl := wd_lt hi
  have z0 : ∀ x : Int32, x <<< (nI 0 &&& 31) = x := sb_shl0
  unfold f_J4_append_15ec4_k
  refine ok_gd (by decide) ?_
  refine ok_o2 (P := fun r => BS r.1 r.2 (T ++ wdS i)) ?_ (fun a b hab => ok_gd (by decide) (ok_some hab))
  unfold f_J5_append_cf1ce_k
  refine ok_o1e w4 ?_
  refine ok_gd (by decide) ?_
  rw [a2, w1, nI_add]
  refine ok_o1 (e_ensure a4 a1 hl) (fun v1 ⟨m1, c1, c2, c3⟩ => ?_)
  refine ok_gd (by decide) ?_
  have em1 := c1.cl
  have cw : (nI (wdS i).length).toNatClampNeg = (wdS i).length := nI_clamp (by omega)
  have cT : (nI T.length).toNatClampNeg = T.length := nI_clamp (by omega)
  refine ok_o1 (P := fun v2 => CAPV v2 m1 ∧ ∀ j, v2.2.1 0 j = va_cpy (fun j => (bytS.getD i []).getD j 0) (v1.2.1 0) 0 T.length (wdS i).length j) ?_ (fun v2 ⟨d1, d2⟩ => ?_)
  · unfold f_J5_putStringAt_47b60_k
    have ei : f_J5_inflateIfNeededFor_a7421_k vU v1 i = some () := by
      unfold f_J5_inflateIfNeededFor_a7421_k
      rw [z_jn, if_neg (by decide), w5, z_o1, a1]
      rfl
    refine ok_o1e ei ?_
    refine ok_o1 (P := fun v2 => CAPV v2 m1 ∧ ∀ j, v2.2.1 0 j = va_cpy (fun j => (bytS.getD i []).getD j 0) (v1.2.1 0) 0 T.length (wdS i).length j) ?_ (fun v2 hv => ok_some hv)
    unfold f_J0_getBytes_840e7_k
    rw [a1]
    refine ok_o1e w5 ?_
    refine ok_jn ?_
    rw [if_pos rfl, z0, w1]
    refine ok_gd (by rw [Bool.and_eq_true]; exact ⟨decide_eq_true ⟨by decide, nI_pos (by omega), nI_pos (by omega), by show (0 : Int32).toNatClampNeg + (nI (wdS i).length).toNatClampNeg ≤ _; rw [c_0]; omega, by show (nI T.length).toNatClampNeg + (nI (wdS i).length).toNatClampNeg ≤ _; omega⟩, fitA_of wf _ _⟩) ?_
    refine ok_bn (ok_some ⟨⟨c1.1, c1.2.1, ?_⟩, fun j => ?_⟩)
    · rw [z_sA2]
      exact fit_cpy wf c1.2.2 _ _ _
    · rw [z_sA2, c_0, cT]
      show va_cpy _ _ 0 _ (nI (wdS i).length).toNatClampNeg j = _
      rw [cw]
  · refine ok_bn ?_
    refine ok_gd (by decide) ?_
    have hlen : (T ++ wdS i).length = T.length + (wdS i).length := List.length_append
    refine ok_some ⟨?_, ?_, by omega, ⟨m1, d1, by omega⟩, fun j hj => ?_, app_lt a7 wl⟩
    · rw [z_sF2 _ _ _ (by decide)]; exact a1
    · rw [z_sF1, hlen]
    · rw [d2, getD_app]
      unfold va_cpy
      by_cases hj1 : j < T.length
      · rw [if_neg (by omega), if_pos hj1, c3 j (by omega)]
        exact a6 j hj1
      · rw [if_pos ⟨by omega, by omega⟩, if_neg hj1, Nat.zero_add]
        exact (w3 _ (by omega)).1
theorem b_appendC {vU vV : Vs} {T : List Nat} (h : BS vU vV T) {x : Nat} (hx : x < 128) (hl : T.length + 1 ≤ 190) : Ok (f_J4_append_cf468 vU vV (nI x)) (fun r => BS r.1 r.2 (T ++ [x])) := by
  obtain ⟨a1, a2, a3, ⟨m, a4, a5⟩, a6, a7⟩ := h
  unfold f_J4_append_cf468
  refine ok_gd (by decide) ?_
  refine ok_o2 (P := fun r => BS r.1 r.2 (T ++ [x])) ?_ (fun a b hab => ok_gd (by decide) (ok_some hab))
  unfold f_J5_append_3fe6f
  refine ok_gd (by decide) ?_
  rw [a2, z_l1, nI_add]
  refine ok_o1 (e_ensure a4 a1 hl) (fun v1 ⟨m1, c1, c2, c3⟩ => ?_)
  refine ok_gd (by decide) ?_
  have em1 := c1.cl
  have hm1 := c1.2.1
  have eL : f_J5_isLatin1_aae02 vU v1 = some (nI 1) := by
    unfold f_J5_isLatin1_aae02
    rw [z_jn, z_jn, if_neg (by decide), a1]
    rfl
  have eE : f_J1_canEncode_fc78d (nI x) = some (nI 1) := by
    unfold f_J1_canEncode_fc78d
    rw [z_jn, if_neg (show ¬ (255 : Int32) < nI x from nI_nlt (a := 255) (b := x) (by omega) (by decide))]
    rfl
  refine ok_o1e eL ?_
  refine ok_jn ?_
  refine ok_rw (if_neg (by decide)) ?_
  refine ok_gd (by decide) ?_
  refine ok_o1e eE ?_
  refine ok_rw (if_neg (by decide)) ?_
  refine ok_bn ?_
  refine ok_gd (z_inb (by omega) (by omega)) ?_
  refine ok_bn ?_
  refine ok_gd (by decide) ?_
  have cT : (nI T.length).toNatClampNeg = T.length := nI_clamp (by omega)
  rw [(byte_lit x hx).1, cT]
  have hlen : (T ++ [x]).length = T.length + 1 := List.length_append
  refine ok_some ⟨?_, ?_, by omega, ⟨m1, ⟨c1.1, hm1, ?_⟩, by omega⟩, fun j hj => ?_, app_lt a7 (fun j => ?_)⟩
  · rw [z_sF2 _ _ _ (by decide)]; exact a1
  · rw [z_sF1, hlen]
  · show fitF ((sI v1 0 T.length (nI x)).2.1 0)
    rw [z_sI2]
    exact fit_upd c1.2.2 _ (fit_lit hx)
  · show (sI v1 0 T.length (nI x)).2.1 0 j = _
    rw [z_sI2, getD_app]
    unfold upd
    by_cases hj1 : j < T.length
    · rw [if_neg (by omega), if_pos hj1, c3 j (by omega)]
      exact a6 j hj1
    · rw [if_pos (by omega), if_neg hj1, show j - T.length = 0 by omega]
      rfl
  · cases j with
    | zero => exact hx
    | succ j => exact Nat.zero_lt_succ _
theorem dig_is : ∀ d, d < 10 → f_J6_stringSize_0f7a4 (nI d) = some (nI 1) ∧ digI (-(-(nI d))).toNatClampNeg = nI (48 + d) ∧ ¬ nI d < 0 ∧ inb (-(-(nI d))) 100 = true ∧ (-100 : Int32) < -(nI d) ∧ (-9 : Int32) ≤ -(nI d) := by decide +kernel
theorem b_appendI {vU vV : Vs} {T : List Nat} (h : BS vU vV T) {d : Nat} (hd : d < 10) (hl : T.length + 1 ≤ 190) : Ok (f_J4_append_bf812 vU vV (nI d)) (fun r => BS r.1 r.2 (T ++ [48 + d])) := by
  obtain ⟨a1, a2, a3, ⟨m, a4, a5⟩, a6, a7⟩ := h
  obtain ⟨g1, g2, g3, g4, g5, g6⟩ := dig_is d hd
  unfold f_J4_append_bf812
  refine ok_gd (by decide) ?_
  refine ok_o2 (P := fun r => BS r.1 r.2 (T ++ [48 + d])) ?_ (fun a b hab => ok_gd (by decide) (ok_some hab))
  unfold f_J5_append_c97b9
  refine ok_o1e g1 ?_
  refine ok_gd (by decide) ?_
  rw [a2, nI_add]
  refine ok_o1 (e_ensure a4 a1 hl) (fun v1 ⟨m1, c1, c2, c3⟩ => ?_)
  refine ok_gd (by decide) ?_
  have em1 := c1.cl
  have hm1 := c1.2.1
  have eL : f_J5_isLatin1_aae02 vU v1 = some (nI 1) := by
    unfold f_J5_isLatin1_aae02
    rw [z_jn, z_jn, if_neg (by decide), a1]
    rfl
  refine ok_o1e eL ?_
  refine ok_jn ?_
  refine ok_rw (if_neg (by decide)) ?_
  refine ok_gd (by decide) ?_
  have cT : (nI T.length).toNatClampNeg = T.length := nI_clamp (by omega)
  have eC : f_J6_getChars_ba4f3 v1 (nI d) (nI (T.length + 1)) = some (nI T.length, sI v1 0 T.length (nI (48 + d))) := by
    have ep : nI (T.length + 1) + (-1 : Int32) = nI T.length := by
      rw [Int32.add_comm]
      exact z_m1a _
    unfold f_J6_getChars_ba4f3
    rw [z_jn, if_pos (show (0 : Int32) ≤ nI d from nI_pos' (by omega))]
    refine (if_pos rfl).trans ?_
    rw [lp_1]
    generalize lp (f_J6_getChars_ba4f3_L22 v1 (0 : Int32)) (fun _ _ => none) 999999 = self
    unfold f_J6_getChars_ba4f3_L22
    rw [if_pos g5, g4, z_gt, ep, em1, z_inb (by omega) (by omega), z_gt, z_bn, z_jn, if_pos g6, g2, (byte_lit (48 + d) (by omega)).2, cT]
    show (if (0 : Int32) = 0 then some (nI T.length, sI v1 0 T.length (nI (48 + d))) else none) = _
    exact if_pos rfl
  refine ok_o2e eC ?_
  refine ok_bn ?_
  refine ok_gd (by decide) ?_
  have hlen : (T ++ [48 + d]).length = T.length + 1 := List.length_append
  refine ok_some ⟨?_, ?_, by omega, ⟨m1, ⟨c1.1, hm1, ?_⟩, by omega⟩, fun j hj => ?_, app_lt a7 (fun j => ?_)⟩
  · rw [z_sF2 _ _ _ (by decide)]; exact a1
  · rw [z_sF1, hlen]
  · show fitF ((sI v1 0 T.length (nI (48 + d))).2.1 0)
    rw [z_sI2]
    exact fit_upd c1.2.2 _ (fit_lit (by omega))
  · show (sI v1 0 T.length (nI (48 + d))).2.1 0 j = _
    rw [z_sI2, getD_app]
    unfold upd
    by_cases hj1 : j < T.length
    · rw [if_neg (by omega), if_pos hj1, c3 j (by omega)]
      exact a6 j hj1
    · rw [if_pos (by omega), if_neg hj1, show j - T.length = 0 by omega]
      rfl
  · cases j with
    | zero => show 48 + d < 128; omega
    | succ j => exact Nat.zero_lt_succ _
