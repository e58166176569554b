/-! strings that are made, builders out of strings -/
def ZS (vZ vY : Vs) (T : List Nat) : Prop := vZ.1 1 = nI 0 ∧ vY.1 9 = nI T.length ∧ T.length ≤ 190 ∧ (∀ j, j < T.length → vY.2.1 0 j = nI (T.getD j 0)) ∧ fitF (vY.2.1 0) ∧ ∀ j, T.getD j 0 < 128
theorem ZS.cl {vZ vY : Vs} {T : List Nat} (h : ZS vZ vY T) : (vY.1 9).toNatClampNeg = T.length := by
  have := h.2.2.1
  rw [h.2.1, nI_clamp (by omega)]
theorem ZS.coder {vZ vY : Vs} {T : List Nat} (h : ZS vZ vY T) : f_J0_coder_7d493_d vZ vY = some (nI 0) := by
  unfold f_J0_coder_7d493_d
  rw [z_jn, if_neg (by decide), h.1]
  rfl
theorem ZS.len {vZ vY : Vs} {T : List Nat} (h : ZS vZ vY T) : f_J0_length_8abf5_d vZ vY = some (nI T.length) := by
  unfold f_J0_length_8abf5_d
  rw [h.coder, z_o1, h.cl]
  exact congrArg some (sb_shr0 _)
theorem isC_lit : ∀ n, n < 128 → i2c (nI n &&& (255 : Int32)) = nI n ∧ isC (nI n) = true := by decide +kernel
theorem ZS.at {vZ vY : Vs} {T : List Nat} (h : ZS vZ vY T) {k : Nat} (hk : k < T.length) : f_J0_charAt_5068e_d vZ vY (nI k) = some (nI (T.getD k 0)) := by
  have h3 := h.2.2.1
  have cl := h.cl
  obtain ⟨b1, b2⟩ := isC_lit _ (h.2.2.2.2.2 k)
  have eL : f_J0_isLatin1_aae02_d vZ vY = some (nI 1) := by
    unfold f_J0_isLatin1_aae02_d
    rw [z_jn, z_jn, if_neg (by decide), h.1]
    rfl
  have eI : f_J0_checkIndex_df160 (nI k) (nI T.length) = some () := by
    unfold f_J0_checkIndex_df160 f_J3_checkIndex_8e157_n
    rw [if_neg (nI_pos (by omega)), if_pos (nI_lt hk (by omega)), z_o1]
  unfold f_J0_charAt_5068e_d
  rw [eL, z_o1, if_neg (by decide)]
  unfold f_J1_charAt_3b067_d
  rw [cl, eI, z_o1, z_inb hk (by omega), z_gt, nI_clamp (by omega), h.2.2.2.1 k hk, b1, b2, z_gt, z_o1, b2, z_gt]
theorem BS.latin {vU vV : Vs} {T : List Nat} (h : BS vU vV T) (w : Vs) : f_J5_isLatin1_aae02 vU w = some (nI 1) := by
  unfold f_J5_isLatin1_aae02
  rw [z_jn, z_jn, if_neg (by decide), h.1]
  rfl
theorem b_toString {vU vV : Vs} {T : List Nat} (h : BS vU vV T) : Ok (f_J4_toString_0e30d vU vV) (fun r => ZS r.1 r.2 T) := by
  have hla := h.latin vV
  obtain ⟨a1, a2, a3, ⟨m, a4, a5⟩, a6, a7⟩ := h
  have em := a4.cl
  have hm := a4.2.1
  have hf := a4.2.2
  have cT : (nI T.length).toNatClampNeg = T.length := nI_clamp (by omega)
  unfold f_J4_toString_0e30d
  refine ok_gd (by decide) (ok_bn (ok_gd (by decide) ?_))
  refine ok_o2 (P := fun r => ZS r.1 r.2 T) ?_ (fun a b hab => ok_gd (by decide) (ok_some hab))
  unfold f_J0_init_81219
  refine ok_gd (by decide) ?_
  refine ok_o2 (P := fun r => ZS r.1 r.2 T) ?_ (fun a b hab => ok_gd (by decide) (ok_some hab))
  unfold f_J0_init_db425
  refine ok_o1e (show f_J5_getValue_6d5f1 vU vV = some () from rfl) ?_
  refine ok_o1e (show f_J4_length_8abf5 vU vV = some (nI T.length) from congrArg some a2) ?_
  refine ok_o1e hla ?_
  refine ok_gd (by decide) (ok_gd (by decide) (ok_bn (ok_gd (by decide) ?_)))
  refine ok_o1 (P := fun w => w.1 9 = nI T.length ∧ (∀ j, j < T.length → w.2.1 0 j = nI (T.getD j 0)) ∧ fitF (w.2.1 0)) ?_ (fun w hw => ok_gd (by decide) (ok_some ⟨z_sF1 _ _ _, hw.1, a3, hw.2.1, hw.2.2, a7⟩))
  unfold f_J7_copyOfRange_39247
  rw [em]
  refine ok_jn ?_
  refine ok_rw (if_pos rfl) ?_
  have hK : Ok (gd (decide (0 + 1 ≤ 1 ∧ 0 + 400 ≤ 400)) (o1 (f_J7_copyOfRangeByte_39247 vV (0 : Int32) (nI T.length)) (fun (vN13_3 : Vs) => gd (decide ((0 + 1) ≤ 1 ∧ (0 + 400) ≤ 400)) (some (vN13_3))))) (fun w => w.1 9 = nI T.length ∧ (∀ j, j < T.length → w.2.1 0 j = nI (T.getD j 0)) ∧ fitF (w.2.1 0)) := by
    refine ok_gd (by decide) ?_
    refine ok_o1 (P := fun w => w.1 9 = nI T.length ∧ (∀ j, j < T.length → w.2.1 0 j = nI (T.getD j 0)) ∧ fitF (w.2.1 0)) ?_ (fun w hw => ok_gd (by decide) (ok_some hw))
    unfold f_J7_copyOfRangeByte_39247
    have e1 : f_J7_checkLength_df160 (0 : Int32) (nI T.length) = some () := if_pos (nI_pos' (by omega))
    have e2 : nI T.length - (0 : Int32) = nI T.length := Int32.sub_zero _
    have e3 : nI m - (0 : Int32) = nI m := Int32.sub_zero _
    have e4 : (if nI T.length < nI m then nI T.length else nI m) = nI T.length := by
      by_cases c : T.length < m
      · rw [if_pos (nI_lt c (by omega))]
      · rw [if_neg (nI_nlt (by omega) (by omega)), show m = T.length by omega]
    rw [em, e2, e3, e4]
    refine ok_o1e e1 ?_
    refine ok_gd (decide_eq_true ⟨nI_pos (by omega), by omega, by omega, by omega⟩) ?_
    refine ok_bn ?_
    refine ok_gd (decide_eq_true ⟨by omega, by omega⟩) ?_
    refine ok_gd (by rw [Bool.and_eq_true]; exact ⟨decide_eq_true ⟨by decide, by decide, nI_pos (by omega), by rw [c_0]; omega, by show (0 : Int32).toNatClampNeg + _ ≤ (nI T.length).toNatClampNeg; rw [c_0]; omega⟩, fitA_of hf _ _⟩) ?_
    refine ok_bn ?_
    refine ok_gd (decide_eq_true ⟨by omega, by omega⟩) ?_
    refine ok_some ⟨rfl, fun j hj => ?_, ?_⟩
    · rw [z_sA2, c_0, cT]
      unfold va_cpy
      rw [if_pos ⟨Nat.zero_le _, by omega⟩, Nat.zero_add, Nat.sub_zero]
      exact a6 j hj
    · rw [z_sA2]
      exact fit_cpy hf fit_0 _ _ _
  by_cases c : T.length = m
  · refine ok_rw (if_pos (by rw [c])) ?_
    refine ok_gd (by rw [Bool.and_eq_true]; exact ⟨decide_eq_true ⟨by omega, by omega⟩, fitA_of hf _ _⟩) ?_
    refine ok_bn ?_
    refine ok_gd (decide_eq_true ⟨by omega, by omega⟩) ?_
    exact ok_some ⟨by rw [c]; exact a4.1, a6, hf⟩
  · exact ok_rw (if_neg (fun q => c ((nI_eq (by omega) (by omega)).mp q))) hK
theorem b_new {vU : Vs} (h1 : vU.1 1 = nI 0) (h3 : vU.1 3 = nI 0) : Ok (f_J4_init_da8c8 vU) (fun r => BS r.1 r.2 []) := by
  unfold f_J4_init_da8c8
  refine ok_gd (by decide) ?_
  refine ok_o2 (P := fun r => BS r.1 r.2 []) ?_ (fun a b hab => ok_gd (by decide) (ok_some hab))
  unfold f_J5_init_d00df
  refine ok_gd (by decide) (ok_gd (by decide) (ok_bn (ok_gd (by decide) (ok_bn (ok_gd (by decide) ?_)))))
  refine ok_some ⟨z_sF1 _ _ _, ?_, by decide, ⟨16, ⟨rfl, by omega, fit_0⟩, by decide⟩, fun j hj => absurd hj (by simp), fun j => by show ([] : List Nat).getD j 0 < 128; simp⟩
  rw [z_sF2 _ _ _ (by decide)]
  exact h3
theorem b_ofString {vU vZ vY : Vs} {T : List Nat} (hz : ZS vZ vY T) (h3 : vU.1 3 = nI 0) : Ok (f_J4_init_a7421 vU vZ vY) (fun r => BS r.1 r.2 T) := by
  have cl := hz.cl
  have hlen := hz.len
  have hco := hz.coder
  obtain ⟨z1, z2, z3, z4, z5, z6⟩ := hz
  have z0 : ∀ x : Int32, x <<< (nI 0 &&& 31) = x := sb_shl0
  unfold f_J4_init_a7421
  refine ok_gd (by decide) ?_
  refine ok_o2 (P := fun r => BS r.1 r.2 T) ?_ (fun a b hab => ok_gd (by decide) (ok_some hab))
  unfold f_J5_init_a7421
  have e16 : nI T.length + (16 : Int32) = nI (T.length + 16) := nI_add _ 16
  have cL : (nI (T.length + 16)).toNatClampNeg = T.length + 16 := nI_clamp (by omega)
  have cT : (nI T.length).toNatClampNeg = T.length := nI_clamp (by omega)
  refine ok_o1e hlen ?_
  refine ok_gd (decide_eq_true (show ¬ (2147483631 : Int32) ≤ nI T.length from nI_ge (a := T.length) (b := 2147483631) (by omega) (by decide))) ?_
  refine ok_o1e hco ?_
  refine ok_gd (by decide) (ok_bn (ok_gd (by decide) ?_))
  rw [e16]
  refine ok_gd (decide_eq_true ⟨nI_pos (by omega), by omega, by omega, by omega⟩) (ok_bn ?_)
  refine ok_gd (decide_eq_true ⟨by omega, by omega⟩) ?_
  refine ok_o2 (P := fun r => BS r.1 r.2 T) ?_ (fun a b hab => ok_gd (decide_eq_true ⟨by omega, by omega⟩) (ok_some hab))
  have hU1 : (sF vU 1 (nI 0)).1 1 = nI 0 := z_sF1 _ _ _
  have hU3 : (sF vU 1 (nI 0)).1 3 = nI 0 := by rw [z_sF2 _ _ _ (by decide)]; exact h3
  generalize sF vU 1 (nI 0) = wU at hU1 hU3
  have c1 : CAPV (aV (nI (T.length + 16)) (fun _ => 0)) (T.length + 16) := ⟨rfl, by omega, fit_0⟩
  generalize aV (nI (T.length + 16)) (fun _ => 0) = wV at c1
  unfold f_J4_append_cf1ce_d
  refine ok_gd (by decide) ?_
  refine ok_o2 (P := fun r => BS r.1 r.2 T) ?_ (fun a b hab => ok_gd (by decide) (ok_some hab))
  unfold f_J4_append_15ec4_d
  refine ok_gd (by decide) ?_
  refine ok_o2 (P := fun r => BS r.1 r.2 T) ?_ (fun a b hab => ok_gd (by decide) (ok_some hab))
  unfold f_J5_append_cf1ce_d
  refine ok_o1e hlen ?_
  refine ok_gd (by decide) ?_
  rw [hU3, nI_add, Nat.zero_add]
  refine ok_o1 (e_ensure c1 hU1 z3) (fun v1 ⟨m1, d1, d2, d3⟩ => ?_)
  refine ok_gd (by decide) ?_
  have em1 := d1.cl
  refine ok_o1 (P := fun v2 => CAPV v2 m1 ∧ ∀ j, j < T.length → v2.2.1 0 j = nI (T.getD j 0)) ?_ (fun v2 ⟨e1, e2⟩ => ?_)
  · unfold f_J5_putStringAt_47b60_d
    have ei : f_J5_inflateIfNeededFor_a7421_d wU v1 vZ vY = some () := by
      unfold f_J5_inflateIfNeededFor_a7421_d
      rw [z_jn, if_neg (by decide), hco, z_o1, hU1]
      rfl
    refine ok_o1e ei ?_
    refine ok_o1 (P := fun v2 => CAPV v2 m1 ∧ ∀ j, j < T.length → v2.2.1 0 j = nI (T.getD j 0)) ?_ (fun v2 hv => ok_some hv)
    unfold f_J0_getBytes_840e7_d
    rw [hU1]
    refine ok_o1e hco ?_
    refine ok_jn ?_
    rw [if_pos rfl, z0, cl]
    refine ok_gd (by rw [Bool.and_eq_true]; exact ⟨decide_eq_true ⟨by decide, by decide, nI_pos (by omega), by rw [c_0]; omega, by show (nI 0).toNatClampNeg + _ ≤ _; rw [z_cl (by omega)]; omega⟩, fitA_of z5 _ _⟩) ?_
    refine ok_bn (ok_some ⟨⟨d1.1, d1.2.1, ?_⟩, fun j hj => ?_⟩)
    · rw [z_sA2]
      exact fit_cpy z5 d1.2.2 _ _ _
    · rw [z_sA2, c_0, cT, z_cl (show 0 < 2147483648 by omega)]
      unfold va_cpy
      rw [if_pos ⟨Nat.zero_le _, by omega⟩, Nat.zero_add, Nat.sub_zero]
      exact z4 j hj
  · refine ok_bn ?_
    refine ok_gd (by decide) ?_
    refine ok_some ⟨?_, z_sF1 _ _ _, z3, ⟨m1, e1, d2⟩, e2, z6⟩
    rw [z_sF2 _ _ _ (by decide)]
    exact hU1
