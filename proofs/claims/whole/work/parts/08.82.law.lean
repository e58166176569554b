def f_L_c4 (xs : Nat → Int32) (L : Nat) (nRT nRF : Nat) (self0 : Vs → Vs → Vs → Vs → Vs → Vs → Vs → Vs → Vs → Vs → Vs → Vs → Vs → Vs → Hv → Int32 → Option Unit) (vM : Vs) (vO : Vs) (vF : Vs) (vC : Vs) (vT : Vs) (vRT : Vs) (vG : Vs) (vB : Vs) (vRF : Vs) (vGF : Vs) (vBF : Vs) (vD : Vs) (vE : Vs) (vU : Vs) (vH : Hv) (x4 : Int32) : Option Unit :=
  gd (inb (x4 + (1 : Int32)) L) (gd (inb (x4 + (2 : Int32)) L) (o2 (f_L_wire vO vF vC (xs ((x4 + (1 : Int32))).toNatClampNeg) (xs ((x4 + (2 : Int32))).toNatClampNeg)) (fun (r71 : Int32) (vO_72 : Vs) => gd (inb (x4 + (1 : Int32)) L) (gd (inb (x4 + (2 : Int32)) L) (o2 (f_X8_wire vM (xs ((x4 + (1 : Int32))).toNatClampNeg) (xs ((x4 + (2 : Int32))).toNatClampNeg)) (fun (r76 : Int32) (vM_77 : Vs) => o1 (f_X8_thrown vM_77) (fun (r79 : Int32) => if r79 = r71 then jn (self0 vM_77 vO_72 vF vC vT vRT vG vB vRF vGF vBF vD vE vU vH x4) (fun k82 => if r71 = 0 then gd (inb (0 : Int32) 1) (if (lg_cmp (vO_72.2.2 0 ((0 : Int32)).toNatClampNeg) ((r76).toInt64)) = 0 then k82 else none) else k82) else none)))))))
set_option maxHeartbeats 8000000 in
set_option maxRecDepth 100000 in
theorem law_c4 {p : Program} {e : Env} {s : State} {m : MethodId} {args : Array Value} {below : List Frame} {meth : Method} {c : Code} {Q : State → Prop} (l : Launch) (hst : l.stackTraces = false) (g : Gx) {A : Nat → Prop} {b L : Nat} {xs : Nat → Int32} (hx : p.tables.exec = Jvm.exec) (hb : c.code = cL_law) (hml : c.maxLocals = 9) (hown : s.vm.findClass RL = some m.cls) (htu : ∀ w ∈ UW, w.before args s = true) (hK : va_K g.1 vwCl (tyL g) s) (hG : BG g A s s.heap) (hA : ∀ q, s.heap.size ≤ q → A q) (hX : va_X b L xs s s.heap) (hbl : b < s.heap.size) (hbA : ¬ A b) (bM : Nat → Nat) (bO : Nat → Nat) (bF : Nat → Nat) (bS : Nat → Nat) (bC : Nat → Nat) (bT : Nat → Nat) (bRT : Nat → Nat) (bG : Nat → Nat) (bB : Nat → Nat) (bRF : Nat → Nat) (bGF : Nat → Nat) (bBF : Nat → Nat) (bD : Nat → Nat) (bS2 : Nat → Nat) (bE : Nat → Nat) (bU : Nat → Nat) (bH : Nat → Nat → Nat) (nRT nRF : Nat) (cells slots : Nat) (hcr : cells + 1 ≤ room_1.cells ∧ slots + 6 ≤ room_1.slots) (self0 : Vs → Vs → Vs → Vs → Vs → Vs → Vs → Vs → Vs → Vs → Vs → Vs → Vs → Vs → Hv → Int32 → Option Unit) (ih : ∀ (vM : Vs) (vO : Vs) (vF : Vs) (vC : Vs) (vT : Vs) (vRT : Vs) (vG : Vs) (vB : Vs) (vRF : Vs) (vGF : Vs) (vBF : Vs) (vD : Vs) (vE : Vs) (vU : Vs) (vH : Hv) (x4 : Int32), self0 vM vO vF vC vT vRT vG vB vRF vGF vBF vD vE vU vH x4 = some () → ∀ (H : Heap) (locs : List Loc), va_P g.1 vwCl (cM g bM vM ++ (cO g bO vO ++ (cF g bF (bD 0) (bS 0) (bH 0 0) (bRF 0) (bRT 0) vF ++ (cS g bS (bC 0) (bT 0) ++ (cC g bC vC ++ (cT g bT vT ++ (cR g bRT nRT (bG 0) (bB 0) vRT ++ (cL g bG vG ++ (cL g bB vB ++ (cR g bRF nRF (bGF 0) (bBF 0) vRF ++ (cL g bGF vGF ++ (cL g bBF vBF ++ (cD g bD (bS2 0) vD ++ (cS g bS2 (bE 0) (bU 0) ++ (cC g bE vE ++ (cT g bU vU ++ (cH g bH vH))))))))))))))))) H → va_D A (cM g bM vM ++ (cO g bO vO ++ (cF g bF (bD 0) (bS 0) (bH 0 0) (bRF 0) (bRT 0) vF ++ (cS g bS (bC 0) (bT 0) ++ (cC g bC vC ++ (cT g bT vT ++ (cR g bRT nRT (bG 0) (bB 0) vRT ++ (cL g bG vG ++ (cL g bB vB ++ (cR g bRF nRF (bGF 0) (bBF 0) vRF ++ (cL g bGF vGF ++ (cL g bBF vBF ++ (cD g bD (bS2 0) vD ++ (cS g bS2 (bE 0) (bU 0) ++ (cC g bE vE ++ (cT g bU vU ++ (cH g bH vH))))))))))))))))) → va_S A s.heap H locs → ∀ ls : Array Slot, lv_has ls 9 [(0, .ref b), (1, .ref (bF 0)), (2, .ref (bM 0)), (3, .ref (bO 1)), (4, .int x4)] → W p l e room_1 s m args below meth c H locs (cells + 1) (slots + 6) Q (F0 m 1532 ls [])) (vM : Vs) (vO : Vs) (vF : Vs) (vC : Vs) (vT : Vs) (vRT : Vs) (vG : Vs) (vB : Vs) (vRF : Vs) (vGF : Vs) (vBF : Vs) (vD : Vs) (vE : Vs) (vU : Vs) (vH : Hv) (x4 : Int32) (hf : f_L_c4 xs L nRT nRF self0 vM vO vF vC vT vRT vG vB vRF vGF vBF vD vE vU vH x4 = some ()) (H : Heap) (locs : List Loc) (hP : va_P g.1 vwCl (cM g bM vM ++ (cO g bO vO ++ (cF g bF (bD 0) (bS 0) (bH 0 0) (bRF 0) (bRT 0) vF ++ (cS g bS (bC 0) (bT 0) ++ (cC g bC vC ++ (cT g bT vT ++ (cR g bRT nRT (bG 0) (bB 0) vRT ++ (cL g bG vG ++ (cL g bB vB ++ (cR g bRF nRF (bGF 0) (bBF 0) vRF ++ (cL g bGF vGF ++ (cL g bBF vBF ++ (cD g bD (bS2 0) vD ++ (cS g bS2 (bE 0) (bU 0) ++ (cC g bE vE ++ (cT g bU vU ++ (cH g bH vH))))))))))))))))) H) (hD : va_D A (cM g bM vM ++ (cO g bO vO ++ (cF g bF (bD 0) (bS 0) (bH 0 0) (bRF 0) (bRT 0) vF ++ (cS g bS (bC 0) (bT 0) ++ (cC g bC vC ++ (cT g bT vT ++ (cR g bRT nRT (bG 0) (bB 0) vRT ++ (cL g bG vG ++ (cL g bB vB ++ (cR g bRF nRF (bGF 0) (bBF 0) vRF ++ (cL g bGF vGF ++ (cL g bBF vBF ++ (cD g bD (bS2 0) vD ++ (cS g bS2 (bE 0) (bU 0) ++ (cC g bE vE ++ (cT g bU vU ++ (cH g bH vH)))))))))))))))))) (hS : va_S A s.heap H locs) (ls : Array Slot) (hl : lv_has ls 9 [(0, .ref b), (1, .ref (bF 0)), (2, .ref (bM 0)), (3, .ref (bO 1)), (4, .int x4)]) : W p l e room_1 s m args below meth c H locs cells slots Q (F0 m 370 ls []) := by
  have hc0 : cells ≤ room_1.cells ∧ slots ≤ room_1.slots := ⟨by omega, by omega⟩
  unfold f_L_c4 at hf
  refine lv_aload_n hx hb dL_law_370 rfl (lv_at hl 1 rfl) ?_
  refine lv_aload_n hx hb dL_law_371 rfl (lv_at hl 0 rfl) ?_
  refine lv_iload hx hb dL_law_372 (lv_at hl 4 rfl) ?_
  refine lv_iconst (v := (1 : Int32)) hx hb dL_law_374 (by decide) ?_
  refine lv_iadd hx hb dL_law_375 ?_
  obtain ⟨h69, hf⟩ := gd_in hf
  refine va_sld hx hb hX hbl hbA hS h69 dL_law_376 ?_
  refine lv_aload_n hx hb dL_law_377 rfl (lv_at hl 0 rfl) ?_
  refine lv_iload hx hb dL_law_378 (lv_at hl 4 rfl) ?_
  refine lv_iconst (v := (2 : Int32)) hx hb dL_law_380 (by decide) ?_
  refine lv_iadd hx hb dL_law_381 ?_
  obtain ⟨h70, hf⟩ := gd_in hf
  refine va_sld hx hb hX hbl hbA hS h70 dL_law_382 ?_
  refine lv_aload_n hx hb dL_law_383 rfl (lv_at hl 3 rfl) ?_
  obtain ⟨r71, vO_72, hg73, hf⟩ := o2_at hf
  refine k_siHQ ⟨hx, hb, hml, hown, htu⟩ hK hP hD hS hA hG (h_L_wire l hst g bO vO bF (bD 0) (bH 0 0) (bRF 0) (bRT 0) vF bS (bT 0) bC vC (xs ((x4 + (1 : Int32))).toNatClampNeg) (xs ((x4 + (2 : Int32))).toNatClampNeg) r71 vO_72 hg73) (vx_cwSW 4 htu (gU_H mw_4_121 hcL_wire) rfl rfl rfl hdL_wire ⟨Nat.le_of_ble_eq_true rfl, Nat.le_of_ble_eq_true rfl⟩) (wr := (cM g bM vM ++ (cT g bT vT ++ (cR g bRT nRT (bG 0) (bB 0) vRT ++ (cL g bG vG ++ (cL g bB vB ++ (cR g bRF nRF (bGF 0) (bBF 0) vRF ++ (cL g bGF vGF ++ (cL g bBF vBF ++ (cD g bD (bS2 0) vD ++ (cS g bS2 (bE 0) (bU 0) ++ (cC g bE vE ++ (cT g bU vU ++ (cH g bH vH)))))))))))))) (w2 := cM g bM vM ++ (cO g bO vO_72 ++ (cF g bF (bD 0) (bS 0) (bH 0 0) (bRF 0) (bRT 0) vF ++ (cS g bS (bC 0) (bT 0) ++ (cC g bC vC ++ (cT g bT vT ++ (cR g bRT nRT (bG 0) (bB 0) vRT ++ (cL g bG vG ++ (cL g bB vB ++ (cR g bRF nRF (bGF 0) (bBF 0) vRF ++ (cL g bGF vGF ++ (cL g bBF vBF ++ (cD g bD (bS2 0) vD ++ (cS g bS2 (bE 0) (bU 0) ++ (cC g bE vE ++ (cT g bU vU ++ (cH g bH vH))))))))))))))))) (kpc (fun P => by simp only [List.countP_append] <;> omega)) (kpc (fun P => by simp only [List.countP_append] <;> omega)) (As := [.ref (bF 0), .int (xs ((x4 + (1 : Int32))).toNatClampNeg), .int (xs ((x4 + (2 : Int32))).toNatClampNeg), .ref (bO 1)]) (rest := []) rfl rfl hl.1 (Nat.le_of_ble_eq_true rfl) dL_law_384 (k1 := cells + 1) (n1 := slots + 6) rfl rfl hcr (fun H locs hP hD hS => ?_)
  refine lv_istore (lv' := [(5, .int r71), (0, .ref b), (1, .ref (bF 0)), (2, .ref (bM 0)), (3, .ref (bO 1)), (4, .int x4)]) hx hb dL_law_387 hl (by decide) rfl (fun ls hl => ?_)
  refine lv_aload_n hx hb dL_law_389 rfl (lv_at hl 3 rfl) ?_
  refine lv_aload_n hx hb dL_law_390 rfl (lv_at hl 1 rfl) ?_
  refine lv_iload hx hb dL_law_391 (lv_at hl 5 rfl) ?_
  refine lv_iconst (v := (1 : Int32)) hx hb dL_law_393 (by decide) ?_
  refine lv_iadd hx hb dL_law_394 ?_
  obtain ⟨h74, hf⟩ := gd_in hf
  refine va_sld hx hb hX hbl hbA hS h74 dL_law_395 ?_
  refine lv_aload_n hx hb dL_law_396 rfl (lv_at hl 1 rfl) ?_
  refine lv_iload hx hb dL_law_397 (lv_at hl 5 rfl) ?_
  refine lv_iconst (v := (2 : Int32)) hx hb dL_law_399 (by decide) ?_
  refine lv_iadd hx hb dL_law_400 ?_
  obtain ⟨h75, hf⟩ := gd_in hf
  refine va_sld hx hb hX hbl hbA hS h75 dL_law_401 ?_
  obtain ⟨r76, vM_77, hg78, hf⟩ := o2_at hf
  refine k_viQ ⟨hx, hb, hml, hown, htu⟩ hK hP hD hS hA hG (c_X8_wire l g bM vM (xs ((x4 + (1 : Int32))).toNatClampNeg) (xs ((x4 + (2 : Int32))).toNatClampNeg) r76 vM_77 hg78) (cwV 2 htu (gU_V mw_6_114 hcX8_wire) rfl rfl rfl hdX8_wire ⟨Nat.le_of_ble_eq_true rfl, Nat.le_of_ble_eq_true rfl⟩) (q0 := 0) (ci := 8) (fs := fcM bM vM) (q := (RX8, TX8, 23)) rfl rfl rfl (wr := (cO g bO vO_72 ++ (cF g bF (bD 0) (bS 0) (bH 0 0) (bRF 0) (bRT 0) vF ++ (cS g bS (bC 0) (bT 0) ++ (cC g bC vC ++ (cT g bT vT ++ (cR g bRT nRT (bG 0) (bB 0) vRT ++ (cL g bG vG ++ (cL g bB vB ++ (cR g bRF nRF (bGF 0) (bBF 0) vRF ++ (cL g bGF vGF ++ (cL g bBF vBF ++ (cD g bD (bS2 0) vD ++ (cS g bS2 (bE 0) (bU 0) ++ (cC g bE vE ++ (cT g bU vU ++ (cH g bH vH))))))))))))))))) (w2 := cM g bM vM_77 ++ (cO g bO vO_72 ++ (cF g bF (bD 0) (bS 0) (bH 0 0) (bRF 0) (bRT 0) vF ++ (cS g bS (bC 0) (bT 0) ++ (cC g bC vC ++ (cT g bT vT ++ (cR g bRT nRT (bG 0) (bB 0) vRT ++ (cL g bG vG ++ (cL g bB vB ++ (cR g bRF nRF (bGF 0) (bBF 0) vRF ++ (cL g bGF vGF ++ (cL g bBF vBF ++ (cD g bD (bS2 0) vD ++ (cS g bS2 (bE 0) (bU 0) ++ (cC g bE vE ++ (cT g bU vU ++ (cH g bH vH))))))))))))))))) (kpc (fun P => by simp only [List.countP_append] <;> omega)) (kpc (fun P => by simp only [List.countP_append] <;> omega)) (As := [.int (xs ((x4 + (1 : Int32))).toNatClampNeg), .int (xs ((x4 + (2 : Int32))).toNatClampNeg)]) (rest := []) rfl rfl hl.1 (Nat.le_of_ble_eq_true rfl) dL_law_402 (k1 := cells + 1) (n1 := slots + 6) rfl rfl hcr (fun H locs hP hD hS => ?_)
  refine lv_istore (lv' := [(6, .int r76), (5, .int r71), (0, .ref b), (1, .ref (bF 0)), (2, .ref (bM 0)), (3, .ref (bO 1)), (4, .int x4)]) hx hb dL_law_405 hl (by decide) rfl (fun ls hl => ?_)
  refine lv_aload_n hx hb dL_law_407 rfl (lv_at hl 4 rfl) ?_
  obtain ⟨r79, hg80, hf⟩ := o1_at hf
  refine k_viQ ⟨hx, hb, hml, hown, htu⟩ hK hP hD hS hA hG (c_X8_thrown l g bM vM_77 r79 hg80) (cwV 0 htu (gU_V mw_5_143 hcX8_thrown) rfl rfl rfl hdX8_thrown ⟨Nat.le_of_ble_eq_true rfl, Nat.le_of_ble_eq_true rfl⟩) (q0 := 0) (ci := 8) (fs := fcM bM vM_77) (q := (RX8, TX8, 23)) rfl rfl rfl (wr := (cO g bO vO_72 ++ (cF g bF (bD 0) (bS 0) (bH 0 0) (bRF 0) (bRT 0) vF ++ (cS g bS (bC 0) (bT 0) ++ (cC g bC vC ++ (cT g bT vT ++ (cR g bRT nRT (bG 0) (bB 0) vRT ++ (cL g bG vG ++ (cL g bB vB ++ (cR g bRF nRF (bGF 0) (bBF 0) vRF ++ (cL g bGF vGF ++ (cL g bBF vBF ++ (cD g bD (bS2 0) vD ++ (cS g bS2 (bE 0) (bU 0) ++ (cC g bE vE ++ (cT g bU vU ++ (cH g bH vH))))))))))))))))) (w2 := cM g bM vM_77 ++ (cO g bO vO_72 ++ (cF g bF (bD 0) (bS 0) (bH 0 0) (bRF 0) (bRT 0) vF ++ (cS g bS (bC 0) (bT 0) ++ (cC g bC vC ++ (cT g bT vT ++ (cR g bRT nRT (bG 0) (bB 0) vRT ++ (cL g bG vG ++ (cL g bB vB ++ (cR g bRF nRF (bGF 0) (bBF 0) vRF ++ (cL g bGF vGF ++ (cL g bBF vBF ++ (cD g bD (bS2 0) vD ++ (cS g bS2 (bE 0) (bU 0) ++ (cC g bE vE ++ (cT g bU vU ++ (cH g bH vH))))))))))))))))) (kpc (fun P => by simp only [List.countP_append] <;> omega)) (kpc (fun P => by simp only [List.countP_append] <;> omega)) (As := []) (rest := []) rfl rfl hl.1 (Nat.le_of_ble_eq_true rfl) dL_law_408 (k1 := cells + 1) (n1 := slots + 6) rfl rfl hcr (fun H locs hP hD hS => ?_)
  refine lv_iload hx hb dL_law_411 (lv_at hl 1 rfl) ?_
  refine lv_icmp_eq (tgt := 418) hx hb dL_law_413 (by decide) (fun c81 => ?_) (fun c81 => ?_)
  · have hf := it_t hf c81
    refine lv_iload hx hb dL_law_418 (lv_at hl 1 rfl) ?_
    obtain ⟨k82, hk84, hf⟩ := jn_at hf
    have hJ83 : k82 = some () → ∀ (H : Heap) (locs : List Loc), va_P g.1 vwCl (cM g bM vM_77 ++ (cO g bO vO_72 ++ (cF g bF (bD 0) (bS 0) (bH 0 0) (bRF 0) (bRT 0) vF ++ (cS g bS (bC 0) (bT 0) ++ (cC g bC vC ++ (cT g bT vT ++ (cR g bRT nRT (bG 0) (bB 0) vRT ++ (cL g bG vG ++ (cL g bB vB ++ (cR g bRF nRF (bGF 0) (bBF 0) vRF ++ (cL g bGF vGF ++ (cL g bBF vBF ++ (cD g bD (bS2 0) vD ++ (cS g bS2 (bE 0) (bU 0) ++ (cC g bE vE ++ (cT g bU vU ++ (cH g bH vH))))))))))))))))) H → va_D A (cM g bM vM_77 ++ (cO g bO vO_72 ++ (cF g bF (bD 0) (bS 0) (bH 0 0) (bRF 0) (bRT 0) vF ++ (cS g bS (bC 0) (bT 0) ++ (cC g bC vC ++ (cT g bT vT ++ (cR g bRT nRT (bG 0) (bB 0) vRT ++ (cL g bG vG ++ (cL g bB vB ++ (cR g bRF nRF (bGF 0) (bBF 0) vRF ++ (cL g bGF vGF ++ (cL g bBF vBF ++ (cD g bD (bS2 0) vD ++ (cS g bS2 (bE 0) (bU 0) ++ (cC g bE vE ++ (cT g bU vU ++ (cH g bH vH))))))))))))))))) → va_S A s.heap H locs → ∀ ls : Array Slot, lv_has ls 9 [(0, .ref b), (1, .ref (bF 0)), (2, .ref (bM 0)), (3, .ref (bO 1)), (4, .int x4)] → W p l e room_1 s m args below meth c H locs (cells + 1) (slots + 6) Q (F0 m 435 ls []) := by
      intro hf H locs hP hD hS ls hl
      rw [hk84] at hf
      clear hk84
      refine lv_goto (tgt := 1532) hx hb dL_law_435 (by decide) ?_
      refine W.widen (k := cells + 1) (n := slots + 6) (by omega) (by omega) ?_
      exact ih vM_77 vO_72 vF vC vT vRT vG vB vRF vGF vBF vD vE vU vH x4 hf H locs hP hD hS _ (lv_sub hl [0, 1, 2, 3, 4] rfl)
    refine lv_if_ne (tgt := 435) hx hb dL_law_420 (by decide) (fun c85 => ?_) (fun c85 => ?_)
    · have hf := it_f hf c85
      refine W.widen (k := cells + 1) (n := slots + 6) (by omega) (by omega) ?_
      exact hJ83 hf H locs hP hD hS _ (lv_sub hl [2, 3, 4, 5, 6] rfl)
    · have hf := it_t hf c85
      refine lv_aload_n hx hb dL_law_423 rfl (lv_at hl 5 rfl) ?_
      refine lv_iconst (v := (0 : Int32)) hx hb dL_law_424 (by decide) ?_
      obtain ⟨h86, hf⟩ := gd_in hf
      refine va_lald (D := g.1) (f := (vO_72.2.2 0)) hx hb hK hP 14 1 rfl rfl h86 dL_law_425 ?_
      refine lv_iload hx hb dL_law_426 (lv_at hl 0 rfl) ?_
      refine lv_i2l (v := (r76).toInt64) hx hb dL_law_428 rfl ?_
      refine W.lcmp hx hb dL_law_429 ?_
      refine lv_if_eq (tgt := 435) hx hb dL_law_430 (by decide) (fun c87 => ?_) (fun c87 => ?_)
      · have hf := it_t hf c87
        refine W.widen (k := cells + 1) (n := slots + 6) (by omega) (by omega) ?_
        exact hJ83 hf H locs hP hD hS _ (lv_sub hl [2, 3, 4, 5, 6] rfl)
      · have hf := it_f hf c87
        refine lv_iconst (v := (0 : Int32)) hx hb dL_law_433 (by decide) ?_
        cases hf
  · have hf := it_f hf c81
    refine lv_iconst (v := (0 : Int32)) hx hb dL_law_416 (by decide) ?_
    cases hf
def f_L_c5 (xs : Nat → Int32) (L : Nat) (nRT nRF : Nat) (self0 : Vs → Vs → Vs → Vs → Vs → Vs → Vs → Vs → Vs → Vs → Vs → Vs → Vs → Vs → Hv → Int32 → Option Unit) (vM : Vs) (vO : Vs) (vF : Vs) (vC : Vs) (vT : Vs) (vRT : Vs) (vG : Vs) (vB : Vs) (vRF : Vs) (vGF : Vs) (vBF : Vs) (vD : Vs) (vE : Vs) (vU : Vs) (vH : Hv) (x4 : Int32) : Option Unit :=
  gd (inb (x4 + (1 : Int32)) L) (gd (inb (x4 + (2 : Int32)) L) (o2 (f_L_operand vO vF vC (xs ((x4 + (1 : Int32))).toNatClampNeg) (xs ((x4 + (2 : Int32))).toNatClampNeg)) (fun (r90 : Int32) (vO_91 : Vs) => gd (inb (x4 + (1 : Int32)) L) (gd (inb (x4 + (2 : Int32)) L) (o2 (f_X8_operand vM (xs ((x4 + (1 : Int32))).toNatClampNeg) (xs ((x4 + (2 : Int32))).toNatClampNeg)) (fun (r95 : Int32) (vM_96 : Vs) => o1 (f_X8_thrown vM_96) (fun (r98 : Int32) => if r98 = r90 then jn (self0 vM_96 vO_91 vF vC vT vRT vG vB vRF vGF vBF vD vE vU vH x4) (fun k101 => if r90 = 0 then gd (inb (0 : Int32) 1) (if (lg_cmp (vO_91.2.2 0 ((0 : Int32)).toNatClampNeg) ((r95).toInt64)) = 0 then k101 else none) else k101) else none)))))))
set_option maxHeartbeats 8000000 in
set_option maxRecDepth 100000 in
theorem law_c5 {p : Program} {e : Env} {s : State} {m : MethodId} {args : Array Value} {below : List Frame} {meth : Method} {c : Code} {Q : State → Prop} (l : Launch) (hst : l.stackTraces = false) (g : Gx) {A : Nat → Prop} {b L : Nat} {xs : Nat → Int32} (hx : p.tables.exec = Jvm.exec) (hb : c.code = cL_law) (hml : c.maxLocals = 9) (hown : s.vm.findClass RL = some m.cls) (htu : ∀ w ∈ UW, w.before args s = true) (hK : va_K g.1 vwCl (tyL g) s) (hG : BG g A s s.heap) (hA : ∀ q, s.heap.size ≤ q → A q) (hX : va_X b L xs s s.heap) (hbl : b < s.heap.size) (hbA : ¬ A b) (bM : Nat → Nat) (bO : Nat → Nat) (bF : Nat → Nat) (bS : Nat → Nat) (bC : Nat → Nat) (bT : Nat → Nat) (bRT : Nat → Nat) (bG : Nat → Nat) (bB : Nat → Nat) (bRF : Nat → Nat) (bGF : Nat → Nat) (bBF : Nat → Nat) (bD : Nat → Nat) (bS2 : Nat → Nat) (bE : Nat → Nat) (bU : Nat → Nat) (bH : Nat → Nat → Nat) (nRT nRF : Nat) (cells slots : Nat) (hcr : cells + 1 ≤ room_1.cells ∧ slots + 6 ≤ room_1.slots) (self0 : Vs → Vs → Vs → Vs → Vs → Vs → Vs → Vs → Vs → Vs → Vs → Vs → Vs → Vs → Hv → Int32 → Option Unit) (ih : ∀ (vM : Vs) (vO : Vs) (vF : Vs) (vC : Vs) (vT : Vs) (vRT : Vs) (vG : Vs) (vB : Vs) (vRF : Vs) (vGF : Vs) (vBF : Vs) (vD : Vs) (vE : Vs) (vU : Vs) (vH : Hv) (x4 : Int32), self0 vM vO vF vC vT vRT vG vB vRF vGF vBF vD vE vU vH x4 = some () → ∀ (H : Heap) (locs : List Loc), va_P g.1 vwCl (cM g bM vM ++ (cO g bO vO ++ (cF g bF (bD 0) (bS 0) (bH 0 0) (bRF 0) (bRT 0) vF ++ (cS g bS (bC 0) (bT 0) ++ (cC g bC vC ++ (cT g bT vT ++ (cR g bRT nRT (bG 0) (bB 0) vRT ++ (cL g bG vG ++ (cL g bB vB ++ (cR g bRF nRF (bGF 0) (bBF 0) vRF ++ (cL g bGF vGF ++ (cL g bBF vBF ++ (cD g bD (bS2 0) vD ++ (cS g bS2 (bE 0) (bU 0) ++ (cC g bE vE ++ (cT g bU vU ++ (cH g bH vH))))))))))))))))) H → va_D A (cM g bM vM ++ (cO g bO vO ++ (cF g bF (bD 0) (bS 0) (bH 0 0) (bRF 0) (bRT 0) vF ++ (cS g bS (bC 0) (bT 0) ++ (cC g bC vC ++ (cT g bT vT ++ (cR g bRT nRT (bG 0) (bB 0) vRT ++ (cL g bG vG ++ (cL g bB vB ++ (cR g bRF nRF (bGF 0) (bBF 0) vRF ++ (cL g bGF vGF ++ (cL g bBF vBF ++ (cD g bD (bS2 0) vD ++ (cS g bS2 (bE 0) (bU 0) ++ (cC g bE vE ++ (cT g bU vU ++ (cH g bH vH))))))))))))))))) → va_S A s.heap H locs → ∀ ls : Array Slot, lv_has ls 9 [(0, .ref b), (1, .ref (bF 0)), (2, .ref (bM 0)), (3, .ref (bO 1)), (4, .int x4)] → W p l e room_1 s m args below meth c H locs (cells + 1) (slots + 6) Q (F0 m 1532 ls [])) (vM : Vs) (vO : Vs) (vF : Vs) (vC : Vs) (vT : Vs) (vRT : Vs) (vG : Vs) (vB : Vs) (vRF : Vs) (vGF : Vs) (vBF : Vs) (vD : Vs) (vE : Vs) (vU : Vs) (vH : Hv) (x4 : Int32) (hf : f_L_c5 xs L nRT nRF self0 vM vO vF vC vT vRT vG vB vRF vGF vBF vD vE vU vH x4 = some ()) (H : Heap) (locs : List Loc) (hP : va_P g.1 vwCl (cM g bM vM ++ (cO g bO vO ++ (cF g bF (bD 0) (bS 0) (bH 0 0) (bRF 0) (bRT 0) vF ++ (cS g bS (bC 0) (bT 0) ++ (cC g bC vC ++ (cT g bT vT ++ (cR g bRT nRT (bG 0) (bB 0) vRT ++ (cL g bG vG ++ (cL g bB vB ++ (cR g bRF nRF (bGF 0) (bBF 0) vRF ++ (cL g bGF vGF ++ (cL g bBF vBF ++ (cD g bD (bS2 0) vD ++ (cS g bS2 (bE 0) (bU 0) ++ (cC g bE vE ++ (cT g bU vU ++ (cH g bH vH))))))))))))))))) H) (hD : va_D A (cM g bM vM ++ (cO g bO vO ++ (cF g bF (bD 0) (bS 0) (bH 0 0) (bRF 0) (bRT 0) vF ++ (cS g bS (bC 0) (bT 0) ++ (cC g bC vC ++ (cT g bT vT ++ (cR g bRT nRT (bG 0) (bB 0) vRT ++ (cL g bG vG ++ (cL g bB vB ++ (cR g bRF nRF (bGF 0) (bBF 0) vRF ++ (cL g bGF vGF ++ (cL g bBF vBF ++ (cD g bD (bS2 0) vD ++ (cS g bS2 (bE 0) (bU 0) ++ (cC g bE vE ++ (cT g bU vU ++ (cH g bH vH)))))))))))))))))) (hS : va_S A s.heap H locs) (ls : Array Slot) (hl : lv_has ls 9 [(0, .ref b), (1, .ref (bF 0)), (2, .ref (bM 0)), (3, .ref (bO 1)), (4, .int x4)]) : W p l e room_1 s m args below meth c H locs cells slots Q (F0 m 438 ls []) := by
  have hc0 : cells ≤ room_1.cells ∧ slots ≤ room_1.slots := ⟨by omega, by omega⟩
  unfold f_L_c5 at hf
  refine lv_aload_n hx hb dL_law_438 rfl (lv_at hl 1 rfl) ?_
  refine lv_aload_n hx hb dL_law_439 rfl (lv_at hl 0 rfl) ?_
  refine lv_iload hx hb dL_law_440 (lv_at hl 4 rfl) ?_
  refine lv_iconst (v := (1 : Int32)) hx hb dL_law_442 (by decide) ?_
  refine lv_iadd hx hb dL_law_443 ?_
  obtain ⟨h88, hf⟩ := gd_in hf
  refine va_sld hx hb hX hbl hbA hS h88 dL_law_444 ?_
  refine lv_aload_n hx hb dL_law_445 rfl (lv_at hl 0 rfl) ?_
  refine lv_iload hx hb dL_law_446 (lv_at hl 4 rfl) ?_
  refine lv_iconst (v := (2 : Int32)) hx hb dL_law_448 (by decide) ?_
  refine lv_iadd hx hb dL_law_449 ?_
  obtain ⟨h89, hf⟩ := gd_in hf
  refine va_sld hx hb hX hbl hbA hS h89 dL_law_450 ?_
  refine lv_aload_n hx hb dL_law_451 rfl (lv_at hl 3 rfl) ?_
  obtain ⟨r90, vO_91, hg92, hf⟩ := o2_at hf
  refine k_siHQ ⟨hx, hb, hml, hown, htu⟩ hK hP hD hS hA hG (h_L_operand l hst g bO vO bF (bD 0) (bH 0 0) (bRF 0) (bRT 0) vF bS (bT 0) bC vC (xs ((x4 + (1 : Int32))).toNatClampNeg) (xs ((x4 + (2 : Int32))).toNatClampNeg) r90 vO_91 hg92) (vx_cwSW 4 htu (gU_H mw_4_126 hcL_operand) rfl rfl rfl hdL_operand ⟨Nat.le_of_ble_eq_true rfl, Nat.le_of_ble_eq_true rfl⟩) (wr := (cM g bM vM ++ (cT g bT vT ++ (cR g bRT nRT (bG 0) (bB 0) vRT ++ (cL g bG vG ++ (cL g bB vB ++ (cR g bRF nRF (bGF 0) (bBF 0) vRF ++ (cL g bGF vGF ++ (cL g bBF vBF ++ (cD g bD (bS2 0) vD ++ (cS g bS2 (bE 0) (bU 0) ++ (cC g bE vE ++ (cT g bU vU ++ (cH g bH vH)))))))))))))) (w2 := cM g bM vM ++ (cO g bO vO_91 ++ (cF g bF (bD 0) (bS 0) (bH 0 0) (bRF 0) (bRT 0) vF ++ (cS g bS (bC 0) (bT 0) ++ (cC g bC vC ++ (cT g bT vT ++ (cR g bRT nRT (bG 0) (bB 0) vRT ++ (cL g bG vG ++ (cL g bB vB ++ (cR g bRF nRF (bGF 0) (bBF 0) vRF ++ (cL g bGF vGF ++ (cL g bBF vBF ++ (cD g bD (bS2 0) vD ++ (cS g bS2 (bE 0) (bU 0) ++ (cC g bE vE ++ (cT g bU vU ++ (cH g bH vH))))))))))))))))) (kpc (fun P => by simp only [List.countP_append] <;> omega)) (kpc (fun P => by simp only [List.countP_append] <;> omega)) (As := [.ref (bF 0), .int (xs ((x4 + (1 : Int32))).toNatClampNeg), .int (xs ((x4 + (2 : Int32))).toNatClampNeg), .ref (bO 1)]) (rest := []) rfl rfl hl.1 (Nat.le_of_ble_eq_true rfl) dL_law_452 (k1 := cells + 1) (n1 := slots + 6) rfl rfl hcr (fun H locs hP hD hS => ?_)
  refine lv_istore (lv' := [(5, .int r90), (0, .ref b), (1, .ref (bF 0)), (2, .ref (bM 0)), (3, .ref (bO 1)), (4, .int x4)]) hx hb dL_law_455 hl (by decide) rfl (fun ls hl => ?_)
  refine lv_aload_n hx hb dL_law_457 rfl (lv_at hl 3 rfl) ?_
  refine lv_aload_n hx hb dL_law_458 rfl (lv_at hl 1 rfl) ?_
  refine lv_iload hx hb dL_law_459 (lv_at hl 5 rfl) ?_
  refine lv_iconst (v := (1 : Int32)) hx hb dL_law_461 (by decide) ?_
  refine lv_iadd hx hb dL_law_462 ?_
  obtain ⟨h93, hf⟩ := gd_in hf
  refine va_sld hx hb hX hbl hbA hS h93 dL_law_463 ?_
  refine lv_aload_n hx hb dL_law_464 rfl (lv_at hl 1 rfl) ?_
  refine lv_iload hx hb dL_law_465 (lv_at hl 5 rfl) ?_
  refine lv_iconst (v := (2 : Int32)) hx hb dL_law_467 (by decide) ?_
  refine lv_iadd hx hb dL_law_468 ?_
  obtain ⟨h94, hf⟩ := gd_in hf
  refine va_sld hx hb hX hbl hbA hS h94 dL_law_469 ?_
  obtain ⟨r95, vM_96, hg97, hf⟩ := o2_at hf
  refine k_viQ ⟨hx, hb, hml, hown, htu⟩ hK hP hD hS hA hG (c_X8_operand l g bM vM (xs ((x4 + (1 : Int32))).toNatClampNeg) (xs ((x4 + (2 : Int32))).toNatClampNeg) r95 vM_96 hg97) (cwV 2 htu (gU_V mw_6_134 hcX8_operand) rfl rfl rfl hdX8_operand ⟨Nat.le_of_ble_eq_true rfl, Nat.le_of_ble_eq_true rfl⟩) (q0 := 0) (ci := 8) (fs := fcM bM vM) (q := (RX8, TX8, 23)) rfl rfl rfl (wr := (cO g bO vO_91 ++ (cF g bF (bD 0) (bS 0) (bH 0 0) (bRF 0) (bRT 0) vF ++ (cS g bS (bC 0) (bT 0) ++ (cC g bC vC ++ (cT g bT vT ++ (cR g bRT nRT (bG 0) (bB 0) vRT ++ (cL g bG vG ++ (cL g bB vB ++ (cR g bRF nRF (bGF 0) (bBF 0) vRF ++ (cL g bGF vGF ++ (cL g bBF vBF ++ (cD g bD (bS2 0) vD ++ (cS g bS2 (bE 0) (bU 0) ++ (cC g bE vE ++ (cT g bU vU ++ (cH g bH vH))))))))))))))))) (w2 := cM g bM vM_96 ++ (cO g bO vO_91 ++ (cF g bF (bD 0) (bS 0) (bH 0 0) (bRF 0) (bRT 0) vF ++ (cS g bS (bC 0) (bT 0) ++ (cC g bC vC ++ (cT g bT vT ++ (cR g bRT nRT (bG 0) (bB 0) vRT ++ (cL g bG vG ++ (cL g bB vB ++ (cR g bRF nRF (bGF 0) (bBF 0) vRF ++ (cL g bGF vGF ++ (cL g bBF vBF ++ (cD g bD (bS2 0) vD ++ (cS g bS2 (bE 0) (bU 0) ++ (cC g bE vE ++ (cT g bU vU ++ (cH g bH vH))))))))))))))))) (kpc (fun P => by simp only [List.countP_append] <;> omega)) (kpc (fun P => by simp only [List.countP_append] <;> omega)) (As := [.int (xs ((x4 + (1 : Int32))).toNatClampNeg), .int (xs ((x4 + (2 : Int32))).toNatClampNeg)]) (rest := []) rfl rfl hl.1 (Nat.le_of_ble_eq_true rfl) dL_law_470 (k1 := cells + 1) (n1 := slots + 6) rfl rfl hcr (fun H locs hP hD hS => ?_)
  refine lv_istore (lv' := [(6, .int r95), (5, .int r90), (0, .ref b), (1, .ref (bF 0)), (2, .ref (bM 0)), (3, .ref (bO 1)), (4, .int x4)]) hx hb dL_law_473 hl (by decide) rfl (fun ls hl => ?_)
  refine lv_aload_n hx hb dL_law_475 rfl (lv_at hl 4 rfl) ?_
  obtain ⟨r98, hg99, hf⟩ := o1_at hf
  refine k_viQ ⟨hx, hb, hml, hown, htu⟩ hK hP hD hS hA hG (c_X8_thrown l g bM vM_96 r98 hg99) (cwV 0 htu (gU_V mw_5_143 hcX8_thrown) rfl rfl rfl hdX8_thrown ⟨Nat.le_of_ble_eq_true rfl, Nat.le_of_ble_eq_true rfl⟩) (q0 := 0) (ci := 8) (fs := fcM bM vM_96) (q := (RX8, TX8, 23)) rfl rfl rfl (wr := (cO g bO vO_91 ++ (cF g bF (bD 0) (bS 0) (bH 0 0) (bRF 0) (bRT 0) vF ++ (cS g bS (bC 0) (bT 0) ++ (cC g bC vC ++ (cT g bT vT ++ (cR g bRT nRT (bG 0) (bB 0) vRT ++ (cL g bG vG ++ (cL g bB vB ++ (cR g bRF nRF (bGF 0) (bBF 0) vRF ++ (cL g bGF vGF ++ (cL g bBF vBF ++ (cD g bD (bS2 0) vD ++ (cS g bS2 (bE 0) (bU 0) ++ (cC g bE vE ++ (cT g bU vU ++ (cH g bH vH))))))))))))))))) (w2 := cM g bM vM_96 ++ (cO g bO vO_91 ++ (cF g bF (bD 0) (bS 0) (bH 0 0) (bRF 0) (bRT 0) vF ++ (cS g bS (bC 0) (bT 0) ++ (cC g bC vC ++ (cT g bT vT ++ (cR g bRT nRT (bG 0) (bB 0) vRT ++ (cL g bG vG ++ (cL g bB vB ++ (cR g bRF nRF (bGF 0) (bBF 0) vRF ++ (cL g bGF vGF ++ (cL g bBF vBF ++ (cD g bD (bS2 0) vD ++ (cS g bS2 (bE 0) (bU 0) ++ (cC g bE vE ++ (cT g bU vU ++ (cH g bH vH))))))))))))))))) (kpc (fun P => by simp only [List.countP_append] <;> omega)) (kpc (fun P => by simp only [List.countP_append] <;> omega)) (As := []) (rest := []) rfl rfl hl.1 (Nat.le_of_ble_eq_true rfl) dL_law_476 (k1 := cells + 1) (n1 := slots + 6) rfl rfl hcr (fun H locs hP hD hS => ?_)
  refine lv_iload hx hb dL_law_479 (lv_at hl 1 rfl) ?_
  refine lv_icmp_eq (tgt := 486) hx hb dL_law_481 (by decide) (fun c100 => ?_) (fun c100 => ?_)
  · have hf := it_t hf c100
    refine lv_iload hx hb dL_law_486 (lv_at hl 1 rfl) ?_
    obtain ⟨k101, hk103, hf⟩ := jn_at hf
    have hJ102 : k101 = some () → ∀ (H : Heap) (locs : List Loc), va_P g.1 vwCl (cM g bM vM_96 ++ (cO g bO vO_91 ++ (cF g bF (bD 0) (bS 0) (bH 0 0) (bRF 0) (bRT 0) vF ++ (cS g bS (bC 0) (bT 0) ++ (cC g bC vC ++ (cT g bT vT ++ (cR g bRT nRT (bG 0) (bB 0) vRT ++ (cL g bG vG ++ (cL g bB vB ++ (cR g bRF nRF (bGF 0) (bBF 0) vRF ++ (cL g bGF vGF ++ (cL g bBF vBF ++ (cD g bD (bS2 0) vD ++ (cS g bS2 (bE 0) (bU 0) ++ (cC g bE vE ++ (cT g bU vU ++ (cH g bH vH))))))))))))))))) H → va_D A (cM g bM vM_96 ++ (cO g bO vO_91 ++ (cF g bF (bD 0) (bS 0) (bH 0 0) (bRF 0) (bRT 0) vF ++ (cS g bS (bC 0) (bT 0) ++ (cC g bC vC ++ (cT g bT vT ++ (cR g bRT nRT (bG 0) (bB 0) vRT ++ (cL g bG vG ++ (cL g bB vB ++ (cR g bRF nRF (bGF 0) (bBF 0) vRF ++ (cL g bGF vGF ++ (cL g bBF vBF ++ (cD g bD (bS2 0) vD ++ (cS g bS2 (bE 0) (bU 0) ++ (cC g bE vE ++ (cT g bU vU ++ (cH g bH vH))))))))))))))))) → va_S A s.heap H locs → ∀ ls : Array Slot, lv_has ls 9 [(0, .ref b), (1, .ref (bF 0)), (2, .ref (bM 0)), (3, .ref (bO 1)), (4, .int x4)] → W p l e room_1 s m args below meth c H locs (cells + 1) (slots + 6) Q (F0 m 503 ls []) := by
      intro hf H locs hP hD hS ls hl
      rw [hk103] at hf
      clear hk103
      refine lv_goto (tgt := 1532) hx hb dL_law_503 (by decide) ?_
      refine W.widen (k := cells + 1) (n := slots + 6) (by omega) (by omega) ?_
      exact ih vM_96 vO_91 vF vC vT vRT vG vB vRF vGF vBF vD vE vU vH x4 hf H locs hP hD hS _ (lv_sub hl [0, 1, 2, 3, 4] rfl)
    refine lv_if_ne (tgt := 503) hx hb dL_law_488 (by decide) (fun c104 => ?_) (fun c104 => ?_)
    · have hf := it_f hf c104
      refine W.widen (k := cells + 1) (n := slots + 6) (by omega) (by omega) ?_
      exact hJ102 hf H locs hP hD hS _ (lv_sub hl [2, 3, 4, 5, 6] rfl)
    · have hf := it_t hf c104
      refine lv_aload_n hx hb dL_law_491 rfl (lv_at hl 5 rfl) ?_
      refine lv_iconst (v := (0 : Int32)) hx hb dL_law_492 (by decide) ?_
      obtain ⟨h105, hf⟩ := gd_in hf
      refine va_lald (D := g.1) (f := (vO_91.2.2 0)) hx hb hK hP 14 1 rfl rfl h105 dL_law_493 ?_
      refine lv_iload hx hb dL_law_494 (lv_at hl 0 rfl) ?_
      refine lv_i2l (v := (r95).toInt64) hx hb dL_law_496 rfl ?_
      refine W.lcmp hx hb dL_law_497 ?_
      refine lv_if_eq (tgt := 503) hx hb dL_law_498 (by decide) (fun c106 => ?_) (fun c106 => ?_)
      · have hf := it_t hf c106
        refine W.widen (k := cells + 1) (n := slots + 6) (by omega) (by omega) ?_
        exact hJ102 hf H locs hP hD hS _ (lv_sub hl [2, 3, 4, 5, 6] rfl)
      · have hf := it_f hf c106
        refine lv_iconst (v := (0 : Int32)) hx hb dL_law_501 (by decide) ?_
        cases hf
  · have hf := it_f hf c100
    refine lv_iconst (v := (0 : Int32)) hx hb dL_law_484 (by decide) ?_
    cases hf
def f_L_c6 (xs : Nat → Int32) (L : Nat) (nRT nRF : Nat) (self0 : Vs → Vs → Vs → Vs → Vs → Vs → Vs → Vs → Vs → Vs → Vs → Vs → Vs → Vs → Hv → Int32 → Option Unit) (vM : Vs) (vO : Vs) (vF : Vs) (vC : Vs) (vT : Vs) (vRT : Vs) (vG : Vs) (vB : Vs) (vRF : Vs) (vGF : Vs) (vBF : Vs) (vD : Vs) (vE : Vs) (vU : Vs) (vH : Hv) (x4 : Int32) : Option Unit :=
  gd (inb (x4 + (1 : Int32)) L) (gd (inb (x4 + (2 : Int32)) L) (o6 (f_L_value vO vF vC vT nRT vRT vG vB (xs ((x4 + (1 : Int32))).toNatClampNeg) (xs ((x4 + (2 : Int32))).toNatClampNeg)) (fun (r109 : Int32) (vO_110 : Vs) (vF_111 : Vs) (vRT_112 : Vs) (vG_113 : Vs) (vB_114 : Vs) => gd (inb (x4 + (1 : Int32)) L) (gd (inb (x4 + (2 : Int32)) L) (o2 (f_X8_value vM (xs ((x4 + (1 : Int32))).toNatClampNeg) (xs ((x4 + (2 : Int32))).toNatClampNeg)) (fun (r118 : Int32) (vM_119 : Vs) => o1 (f_X8_thrown vM_119) (fun (r121 : Int32) => if r121 = r109 then jn (self0 vM_119 vO_110 vF_111 vC vT vRT_112 vG_113 vB_114 vRF vGF vBF vD vE vU vH x4) (fun k124 => if r109 = 0 then gd (inb (0 : Int32) 1) (if (lg_cmp (vO_110.2.2 0 ((0 : Int32)).toNatClampNeg) ((r118).toInt64)) = 0 then k124 else none) else k124) else none)))))))
set_option maxHeartbeats 8000000 in
set_option maxRecDepth 100000 in
theorem law_c6 {p : Program} {e : Env} {s : State} {m : MethodId} {args : Array Value} {below : List Frame} {meth : Method} {c : Code} {Q : State → Prop} (l : Launch) (hst : l.stackTraces = false) (g : Gx) {A : Nat → Prop} {b L : Nat} {xs : Nat → Int32} (hx : p.tables.exec = Jvm.exec) (hb : c.code = cL_law) (hml : c.maxLocals = 9) (hown : s.vm.findClass RL = some m.cls) (htu : ∀ w ∈ UW, w.before args s = true) (hK : va_K g.1 vwCl (tyL g) s) (hG : BG g A s s.heap) (hA : ∀ q, s.heap.size ≤ q → A q) (hX : va_X b L xs s s.heap) (hbl : b < s.heap.size) (hbA : ¬ A b) (bM : Nat → Nat) (bO : Nat → Nat) (bF : Nat → Nat) (bS : Nat → Nat) (bC : Nat → Nat) (bT : Nat → Nat) (bRT : Nat → Nat) (bG : Nat → Nat) (bB : Nat → Nat) (bRF : Nat → Nat) (bGF : Nat → Nat) (bBF : Nat → Nat) (bD : Nat → Nat) (bS2 : Nat → Nat) (bE : Nat → Nat) (bU : Nat → Nat) (bH : Nat → Nat → Nat) (nRT nRF : Nat) (cells slots : Nat) (hcr : cells + 1 ≤ room_1.cells ∧ slots + 6 ≤ room_1.slots) (self0 : Vs → Vs → Vs → Vs → Vs → Vs → Vs → Vs → Vs → Vs → Vs → Vs → Vs → Vs → Hv → Int32 → Option Unit) (ih : ∀ (vM : Vs) (vO : Vs) (vF : Vs) (vC : Vs) (vT : Vs) (vRT : Vs) (vG : Vs) (vB : Vs) (vRF : Vs) (vGF : Vs) (vBF : Vs) (vD : Vs) (vE : Vs) (vU : Vs) (vH : Hv) (x4 : Int32), self0 vM vO vF vC vT vRT vG vB vRF vGF vBF vD vE vU vH x4 = some () → ∀ (H : Heap) (locs : List Loc), va_P g.1 vwCl (cM g bM vM ++ (cO g bO vO ++ (cF g bF (bD 0) (bS 0) (bH 0 0) (bRF 0) (bRT 0) vF ++ (cS g bS (bC 0) (bT 0) ++ (cC g bC vC ++ (cT g bT vT ++ (cR g bRT nRT (bG 0) (bB 0) vRT ++ (cL g bG vG ++ (cL g bB vB ++ (cR g bRF nRF (bGF 0) (bBF 0) vRF ++ (cL g bGF vGF ++ (cL g bBF vBF ++ (cD g bD (bS2 0) vD ++ (cS g bS2 (bE 0) (bU 0) ++ (cC g bE vE ++ (cT g bU vU ++ (cH g bH vH))))))))))))))))) H → va_D A (cM g bM vM ++ (cO g bO vO ++ (cF g bF (bD 0) (bS 0) (bH 0 0) (bRF 0) (bRT 0) vF ++ (cS g bS (bC 0) (bT 0) ++ (cC g bC vC ++ (cT g bT vT ++ (cR g bRT nRT (bG 0) (bB 0) vRT ++ (cL g bG vG ++ (cL g bB vB ++ (cR g bRF nRF (bGF 0) (bBF 0) vRF ++ (cL g bGF vGF ++ (cL g bBF vBF ++ (cD g bD (bS2 0) vD ++ (cS g bS2 (bE 0) (bU 0) ++ (cC g bE vE ++ (cT g bU vU ++ (cH g bH vH))))))))))))))))) → va_S A s.heap H locs → ∀ ls : Array Slot, lv_has ls 9 [(0, .ref b), (1, .ref (bF 0)), (2, .ref (bM 0)), (3, .ref (bO 1)), (4, .int x4)] → W p l e room_1 s m args below meth c H locs (cells + 1) (slots + 6) Q (F0 m 1532 ls [])) (vM : Vs) (vO : Vs) (vF : Vs) (vC : Vs) (vT : Vs) (vRT : Vs) (vG : Vs) (vB : Vs) (vRF : Vs) (vGF : Vs) (vBF : Vs) (vD : Vs) (vE : Vs) (vU : Vs) (vH : Hv) (x4 : Int32) (hf : f_L_c6 xs L nRT nRF self0 vM vO vF vC vT vRT vG vB vRF vGF vBF vD vE vU vH x4 = some ()) (H : Heap) (locs : List Loc) (hP : va_P g.1 vwCl (cM g bM vM ++ (cO g bO vO ++ (cF g bF (bD 0) (bS 0) (bH 0 0) (bRF 0) (bRT 0) vF ++ (cS g bS (bC 0) (bT 0) ++ (cC g bC vC ++ (cT g bT vT ++ (cR g bRT nRT (bG 0) (bB 0) vRT ++ (cL g bG vG ++ (cL g bB vB ++ (cR g bRF nRF (bGF 0) (bBF 0) vRF ++ (cL g bGF vGF ++ (cL g bBF vBF ++ (cD g bD (bS2 0) vD ++ (cS g bS2 (bE 0) (bU 0) ++ (cC g bE vE ++ (cT g bU vU ++ (cH g bH vH))))))))))))))))) H) (hD : va_D A (cM g bM vM ++ (cO g bO vO ++ (cF g bF (bD 0) (bS 0) (bH 0 0) (bRF 0) (bRT 0) vF ++ (cS g bS (bC 0) (bT 0) ++ (cC g bC vC ++ (cT g bT vT ++ (cR g bRT nRT (bG 0) (bB 0) vRT ++ (cL g bG vG ++ (cL g bB vB ++ (cR g bRF nRF (bGF 0) (bBF 0) vRF ++ (cL g bGF vGF ++ (cL g bBF vBF ++ (cD g bD (bS2 0) vD ++ (cS g bS2 (bE 0) (bU 0) ++ (cC g bE vE ++ (cT g bU vU ++ (cH g bH vH)))))))))))))))))) (hS : va_S A s.heap H locs) (ls : Array Slot) (hl : lv_has ls 9 [(0, .ref b), (1, .ref (bF 0)), (2, .ref (bM 0)), (3, .ref (bO 1)), (4, .int x4)]) : W p l e room_1 s m args below meth c H locs cells slots Q (F0 m 506 ls []) := by
  have hc0 : cells ≤ room_1.cells ∧ slots ≤ room_1.slots := ⟨by omega, by omega⟩
  unfold f_L_c6 at hf
  refine lv_aload_n hx hb dL_law_506 rfl (lv_at hl 1 rfl) ?_
  refine lv_aload_n hx hb dL_law_507 rfl (lv_at hl 0 rfl) ?_
  refine lv_iload hx hb dL_law_508 (lv_at hl 4 rfl) ?_
  refine lv_iconst (v := (1 : Int32)) hx hb dL_law_510 (by decide) ?_
  refine lv_iadd hx hb dL_law_511 ?_
  obtain ⟨h107, hf⟩ := gd_in hf
  refine va_sld hx hb hX hbl hbA hS h107 dL_law_512 ?_
  refine lv_aload_n hx hb dL_law_513 rfl (lv_at hl 0 rfl) ?_
  refine lv_iload hx hb dL_law_514 (lv_at hl 4 rfl) ?_
  refine lv_iconst (v := (2 : Int32)) hx hb dL_law_516 (by decide) ?_
  refine lv_iadd hx hb dL_law_517 ?_
  obtain ⟨h108, hf⟩ := gd_in hf
  refine va_sld hx hb hX hbl hbA hS h108 dL_law_518 ?_
  refine lv_aload_n hx hb dL_law_519 rfl (lv_at hl 3 rfl) ?_
  obtain ⟨r109, vO_110, vF_111, vRT_112, vG_113, vB_114, hg115, hf⟩ := o6_at hf
  refine k_siHQ ⟨hx, hb, hml, hown, htu⟩ hK hP hD hS hA hG (h_L_value l hst g bO vO bF (bD 0) (bH 0 0) (bRF 0) vF bS bC vC bT vT bRT nRT vRT bG vG bB vB (xs ((x4 + (1 : Int32))).toNatClampNeg) (xs ((x4 + (2 : Int32))).toNatClampNeg) r109 vO_110 vF_111 vRT_112 vG_113 vB_114 hg115) (vx_cwSW 4 htu (gU_H mw_4_150 hcL_value) rfl rfl rfl hdL_value ⟨Nat.le_of_ble_eq_true rfl, Nat.le_of_ble_eq_true rfl⟩) (wr := (cM g bM vM ++ (cR g bRF nRF (bGF 0) (bBF 0) vRF ++ (cL g bGF vGF ++ (cL g bBF vBF ++ (cD g bD (bS2 0) vD ++ (cS g bS2 (bE 0) (bU 0) ++ (cC g bE vE ++ (cT g bU vU ++ (cH g bH vH)))))))))) (w2 := cM g bM vM ++ (cO g bO vO_110 ++ (cF g bF (bD 0) (bS 0) (bH 0 0) (bRF 0) (bRT 0) vF_111 ++ (cS g bS (bC 0) (bT 0) ++ (cC g bC vC ++ (cT g bT vT ++ (cR g bRT nRT (bG 0) (bB 0) vRT_112 ++ (cL g bG vG_113 ++ (cL g bB vB_114 ++ (cR g bRF nRF (bGF 0) (bBF 0) vRF ++ (cL g bGF vGF ++ (cL g bBF vBF ++ (cD g bD (bS2 0) vD ++ (cS g bS2 (bE 0) (bU 0) ++ (cC g bE vE ++ (cT g bU vU ++ (cH g bH vH))))))))))))))))) (kpc (fun P => by simp only [List.countP_append] <;> omega)) (kpc (fun P => by simp only [List.countP_append] <;> omega)) (As := [.ref (bF 0), .int (xs ((x4 + (1 : Int32))).toNatClampNeg), .int (xs ((x4 + (2 : Int32))).toNatClampNeg), .ref (bO 1)]) (rest := []) rfl rfl hl.1 (Nat.le_of_ble_eq_true rfl) dL_law_520 (k1 := cells + 1) (n1 := slots + 6) rfl rfl hcr (fun H locs hP hD hS => ?_)
  refine lv_istore (lv' := [(5, .int r109), (0, .ref b), (1, .ref (bF 0)), (2, .ref (bM 0)), (3, .ref (bO 1)), (4, .int x4)]) hx hb dL_law_523 hl (by decide) rfl (fun ls hl => ?_)
  refine lv_aload_n hx hb dL_law_525 rfl (lv_at hl 3 rfl) ?_
  refine lv_aload_n hx hb dL_law_526 rfl (lv_at hl 1 rfl) ?_
  refine lv_iload hx hb dL_law_527 (lv_at hl 5 rfl) ?_
  refine lv_iconst (v := (1 : Int32)) hx hb dL_law_529 (by decide) ?_
  refine lv_iadd hx hb dL_law_530 ?_
  obtain ⟨h116, hf⟩ := gd_in hf
  refine va_sld hx hb hX hbl hbA hS h116 dL_law_531 ?_
  refine lv_aload_n hx hb dL_law_532 rfl (lv_at hl 1 rfl) ?_
  refine lv_iload hx hb dL_law_533 (lv_at hl 5 rfl) ?_
  refine lv_iconst (v := (2 : Int32)) hx hb dL_law_535 (by decide) ?_
  refine lv_iadd hx hb dL_law_536 ?_
  obtain ⟨h117, hf⟩ := gd_in hf
  refine va_sld hx hb hX hbl hbA hS h117 dL_law_537 ?_
  obtain ⟨r118, vM_119, hg120, hf⟩ := o2_at hf
  refine k_viQ ⟨hx, hb, hml, hown, htu⟩ hK hP hD hS hA hG (c_X8_value l g bM vM (xs ((x4 + (1 : Int32))).toNatClampNeg) (xs ((x4 + (2 : Int32))).toNatClampNeg) r118 vM_119 hg120) (cwV 2 htu (gU_V mw_6_138 hcX8_value) rfl rfl rfl hdX8_value ⟨Nat.le_of_ble_eq_true rfl, Nat.le_of_ble_eq_true rfl⟩) (q0 := 0) (ci := 8) (fs := fcM bM vM) (q := (RX8, TX8, 23)) rfl rfl rfl (wr := (cO g bO vO_110 ++ (cF g bF (bD 0) (bS 0) (bH 0 0) (bRF 0) (bRT 0) vF_111 ++ (cS g bS (bC 0) (bT 0) ++ (cC g bC vC ++ (cT g bT vT ++ (cR g bRT nRT (bG 0) (bB 0) vRT_112 ++ (cL g bG vG_113 ++ (cL g bB vB_114 ++ (cR g bRF nRF (bGF 0) (bBF 0) vRF ++ (cL g bGF vGF ++ (cL g bBF vBF ++ (cD g bD (bS2 0) vD ++ (cS g bS2 (bE 0) (bU 0) ++ (cC g bE vE ++ (cT g bU vU ++ (cH g bH vH))))))))))))))))) (w2 := cM g bM vM_119 ++ (cO g bO vO_110 ++ (cF g bF (bD 0) (bS 0) (bH 0 0) (bRF 0) (bRT 0) vF_111 ++ (cS g bS (bC 0) (bT 0) ++ (cC g bC vC ++ (cT g bT vT ++ (cR g bRT nRT (bG 0) (bB 0) vRT_112 ++ (cL g bG vG_113 ++ (cL g bB vB_114 ++ (cR g bRF nRF (bGF 0) (bBF 0) vRF ++ (cL g bGF vGF ++ (cL g bBF vBF ++ (cD g bD (bS2 0) vD ++ (cS g bS2 (bE 0) (bU 0) ++ (cC g bE vE ++ (cT g bU vU ++ (cH g bH vH))))))))))))))))) (kpc (fun P => by simp only [List.countP_append] <;> omega)) (kpc (fun P => by simp only [List.countP_append] <;> omega)) (As := [.int (xs ((x4 + (1 : Int32))).toNatClampNeg), .int (xs ((x4 + (2 : Int32))).toNatClampNeg)]) (rest := []) rfl rfl hl.1 (Nat.le_of_ble_eq_true rfl) dL_law_538 (k1 := cells + 1) (n1 := slots + 6) rfl rfl hcr (fun H locs hP hD hS => ?_)
  refine lv_istore (lv' := [(6, .int r118), (5, .int r109), (0, .ref b), (1, .ref (bF 0)), (2, .ref (bM 0)), (3, .ref (bO 1)), (4, .int x4)]) hx hb dL_law_541 hl (by decide) rfl (fun ls hl => ?_)
  refine lv_aload_n hx hb dL_law_543 rfl (lv_at hl 4 rfl) ?_
  obtain ⟨r121, hg122, hf⟩ := o1_at hf
  refine k_viQ ⟨hx, hb, hml, hown, htu⟩ hK hP hD hS hA hG (c_X8_thrown l g bM vM_119 r121 hg122) (cwV 0 htu (gU_V mw_5_143 hcX8_thrown) rfl rfl rfl hdX8_thrown ⟨Nat.le_of_ble_eq_true rfl, Nat.le_of_ble_eq_true rfl⟩) (q0 := 0) (ci := 8) (fs := fcM bM vM_119) (q := (RX8, TX8, 23)) rfl rfl rfl (wr := (cO g bO vO_110 ++ (cF g bF (bD 0) (bS 0) (bH 0 0) (bRF 0) (bRT 0) vF_111 ++ (cS g bS (bC 0) (bT 0) ++ (cC g bC vC ++ (cT g bT vT ++ (cR g bRT nRT (bG 0) (bB 0) vRT_112 ++ (cL g bG vG_113 ++ (cL g bB vB_114 ++ (cR g bRF nRF (bGF 0) (bBF 0) vRF ++ (cL g bGF vGF ++ (cL g bBF vBF ++ (cD g bD (bS2 0) vD ++ (cS g bS2 (bE 0) (bU 0) ++ (cC g bE vE ++ (cT g bU vU ++ (cH g bH vH))))))))))))))))) (w2 := cM g bM vM_119 ++ (cO g bO vO_110 ++ (cF g bF (bD 0) (bS 0) (bH 0 0) (bRF 0) (bRT 0) vF_111 ++ (cS g bS (bC 0) (bT 0) ++ (cC g bC vC ++ (cT g bT vT ++ (cR g bRT nRT (bG 0) (bB 0) vRT_112 ++ (cL g bG vG_113 ++ (cL g bB vB_114 ++ (cR g bRF nRF (bGF 0) (bBF 0) vRF ++ (cL g bGF vGF ++ (cL g bBF vBF ++ (cD g bD (bS2 0) vD ++ (cS g bS2 (bE 0) (bU 0) ++ (cC g bE vE ++ (cT g bU vU ++ (cH g bH vH))))))))))))))))) (kpc (fun P => by simp only [List.countP_append] <;> omega)) (kpc (fun P => by simp only [List.countP_append] <;> omega)) (As := []) (rest := []) rfl rfl hl.1 (Nat.le_of_ble_eq_true rfl) dL_law_544 (k1 := cells + 1) (n1 := slots + 6) rfl rfl hcr (fun H locs hP hD hS => ?_)
  refine lv_iload hx hb dL_law_547 (lv_at hl 1 rfl) ?_
  refine lv_icmp_eq (tgt := 554) hx hb dL_law_549 (by decide) (fun c123 => ?_) (fun c123 => ?_)
  · have hf := it_t hf c123
    refine lv_iload hx hb dL_law_554 (lv_at hl 1 rfl) ?_
    obtain ⟨k124, hk126, hf⟩ := jn_at hf
    have hJ125 : k124 = some () → ∀ (H : Heap) (locs : List Loc), va_P g.1 vwCl (cM g bM vM_119 ++ (cO g bO vO_110 ++ (cF g bF (bD 0) (bS 0) (bH 0 0) (bRF 0) (bRT 0) vF_111 ++ (cS g bS (bC 0) (bT 0) ++ (cC g bC vC ++ (cT g bT vT ++ (cR g bRT nRT (bG 0) (bB 0) vRT_112 ++ (cL g bG vG_113 ++ (cL g bB vB_114 ++ (cR g bRF nRF (bGF 0) (bBF 0) vRF ++ (cL g bGF vGF ++ (cL g bBF vBF ++ (cD g bD (bS2 0) vD ++ (cS g bS2 (bE 0) (bU 0) ++ (cC g bE vE ++ (cT g bU vU ++ (cH g bH vH))))))))))))))))) H → va_D A (cM g bM vM_119 ++ (cO g bO vO_110 ++ (cF g bF (bD 0) (bS 0) (bH 0 0) (bRF 0) (bRT 0) vF_111 ++ (cS g bS (bC 0) (bT 0) ++ (cC g bC vC ++ (cT g bT vT ++ (cR g bRT nRT (bG 0) (bB 0) vRT_112 ++ (cL g bG vG_113 ++ (cL g bB vB_114 ++ (cR g bRF nRF (bGF 0) (bBF 0) vRF ++ (cL g bGF vGF ++ (cL g bBF vBF ++ (cD g bD (bS2 0) vD ++ (cS g bS2 (bE 0) (bU 0) ++ (cC g bE vE ++ (cT g bU vU ++ (cH g bH vH))))))))))))))))) → va_S A s.heap H locs → ∀ ls : Array Slot, lv_has ls 9 [(0, .ref b), (1, .ref (bF 0)), (2, .ref (bM 0)), (3, .ref (bO 1)), (4, .int x4)] → W p l e room_1 s m args below meth c H locs (cells + 1) (slots + 6) Q (F0 m 571 ls []) := by
      intro hf H locs hP hD hS ls hl
      rw [hk126] at hf
      clear hk126
      refine lv_goto (tgt := 1532) hx hb dL_law_571 (by decide) ?_
      refine W.widen (k := cells + 1) (n := slots + 6) (by omega) (by omega) ?_
      exact ih vM_119 vO_110 vF_111 vC vT vRT_112 vG_113 vB_114 vRF vGF vBF vD vE vU vH x4 hf H locs hP hD hS _ (lv_sub hl [0, 1, 2, 3, 4] rfl)
    refine lv_if_ne (tgt := 571) hx hb dL_law_556 (by decide) (fun c127 => ?_) (fun c127 => ?_)
    · have hf := it_f hf c127
      refine W.widen (k := cells + 1) (n := slots + 6) (by omega) (by omega) ?_
      exact hJ125 hf H locs hP hD hS _ (lv_sub hl [2, 3, 4, 5, 6] rfl)
    · have hf := it_t hf c127
      refine lv_aload_n hx hb dL_law_559 rfl (lv_at hl 5 rfl) ?_
      refine lv_iconst (v := (0 : Int32)) hx hb dL_law_560 (by decide) ?_
      obtain ⟨h128, hf⟩ := gd_in hf
      refine va_lald (D := g.1) (f := (vO_110.2.2 0)) hx hb hK hP 14 1 rfl rfl h128 dL_law_561 ?_
      refine lv_iload hx hb dL_law_562 (lv_at hl 0 rfl) ?_
      refine lv_i2l (v := (r118).toInt64) hx hb dL_law_564 rfl ?_
      refine W.lcmp hx hb dL_law_565 ?_
      refine lv_if_eq (tgt := 571) hx hb dL_law_566 (by decide) (fun c129 => ?_) (fun c129 => ?_)
      · have hf := it_t hf c129
        refine W.widen (k := cells + 1) (n := slots + 6) (by omega) (by omega) ?_
        exact hJ125 hf H locs hP hD hS _ (lv_sub hl [2, 3, 4, 5, 6] rfl)
      · have hf := it_f hf c129
        refine lv_iconst (v := (0 : Int32)) hx hb dL_law_569 (by decide) ?_
        cases hf
  · have hf := it_f hf c123
    refine lv_iconst (v := (0 : Int32)) hx hb dL_law_552 (by decide) ?_
    cases hf
def f_L_c7 (xs : Nat → Int32) (L : Nat) (nRT nRF : Nat) (self0 : Vs → Vs → Vs → Vs → Vs → Vs → Vs → Vs → Vs → Vs → Vs → Vs → Vs → Vs → Hv → Int32 → Option Unit) (vM : Vs) (vO : Vs) (vF : Vs) (vC : Vs) (vT : Vs) (vRT : Vs) (vG : Vs) (vB : Vs) (vRF : Vs) (vGF : Vs) (vBF : Vs) (vD : Vs) (vE : Vs) (vU : Vs) (vH : Hv) (x4 : Int32) : Option Unit :=
  gd (inb (x4 + (1 : Int32)) L) (gd (inb (x4 + (2 : Int32)) L) (gd (inb (x4 + (3 : Int32)) L) (o6 (f_L_faulty vO vF vC vT nRT vRT vG vB (xs ((x4 + (1 : Int32))).toNatClampNeg) (xs ((x4 + (2 : Int32))).toNatClampNeg) (xs ((x4 + (3 : Int32))).toNatClampNeg)) (fun (r133 : Int32) (vO_134 : Vs) (vF_135 : Vs) (vRT_136 : Vs) (vG_137 : Vs) (vB_138 : Vs) => gd (inb (x4 + (1 : Int32)) L) (gd (inb (x4 + (2 : Int32)) L) (gd (inb (x4 + (3 : Int32)) L) (o2 (f_X8_faulty vM (xs ((x4 + (1 : Int32))).toNatClampNeg) (xs ((x4 + (2 : Int32))).toNatClampNeg) (xs ((x4 + (3 : Int32))).toNatClampNeg)) (fun (r143 : Int32) (vM_144 : Vs) => o1 (f_X8_thrown vM_144) (fun (r146 : Int32) => if r146 = r133 then jn (self0 vM_144 vO_134 vF_135 vC vT vRT_136 vG_137 vB_138 vRF vGF vBF vD vE vU vH x4) (fun k149 => if r133 = 0 then gd (inb (0 : Int32) 1) (if (lg_cmp (vO_134.2.2 0 ((0 : Int32)).toNatClampNeg) ((r143).toInt64)) = 0 then k149 else none) else k149) else none)))))))))
set_option maxHeartbeats 8000000 in
set_option maxRecDepth 100000 in
theorem law_c7 {p : Program} {e : Env} {s : State} {m : MethodId} {args : Array Value} {below : List Frame} {meth : Method} {c : Code} {Q : State → Prop} (l : Launch) (hst : l.stackTraces = false) (g : Gx) {A : Nat → Prop} {b L : Nat} {xs : Nat → Int32} (hx : p.tables.exec = Jvm.exec) (hb : c.code = cL_law) (hml : c.maxLocals = 9) (hown : s.vm.findClass RL = some m.cls) (htu : ∀ w ∈ UW, w.before args s = true) (hK : va_K g.1 vwCl (tyL g) s) (hG : BG g A s s.heap) (hA : ∀ q, s.heap.size ≤ q → A q) (hX : va_X b L xs s s.heap) (hbl : b < s.heap.size) (hbA : ¬ A b) (bM : Nat → Nat) (bO : Nat → Nat) (bF : Nat → Nat) (bS : Nat → Nat) (bC : Nat → Nat) (bT : Nat → Nat) (bRT : Nat → Nat) (bG : Nat → Nat) (bB : Nat → Nat) (bRF : Nat → Nat) (bGF : Nat → Nat) (bBF : Nat → Nat) (bD : Nat → Nat) (bS2 : Nat → Nat) (bE : Nat → Nat) (bU : Nat → Nat) (bH : Nat → Nat → Nat) (nRT nRF : Nat) (cells slots : Nat) (hcr : cells + 1 ≤ room_1.cells ∧ slots + 6 ≤ room_1.slots) (self0 : Vs → Vs → Vs → Vs → Vs → Vs → Vs → Vs → Vs → Vs → Vs → Vs → Vs → Vs → Hv → Int32 → Option Unit) (ih : ∀ (vM : Vs) (vO : Vs) (vF : Vs) (vC : Vs) (vT : Vs) (vRT : Vs) (vG : Vs) (vB : Vs) (vRF : Vs) (vGF : Vs) (vBF : Vs) (vD : Vs) (vE : Vs) (vU : Vs) (vH : Hv) (x4 : Int32), self0 vM vO vF vC vT vRT vG vB vRF vGF vBF vD vE vU vH x4 = some () → ∀ (H : Heap) (locs : List Loc), va_P g.1 vwCl (cM g bM vM ++ (cO g bO vO ++ (cF g bF (bD 0) (bS 0) (bH 0 0) (bRF 0) (bRT 0) vF ++ (cS g bS (bC 0) (bT 0) ++ (cC g bC vC ++ (cT g bT vT ++ (cR g bRT nRT (bG 0) (bB 0) vRT ++ (cL g bG vG ++ (cL g bB vB ++ (cR g bRF nRF (bGF 0) (bBF 0) vRF ++ (cL g bGF vGF ++ (cL g bBF vBF ++ (cD g bD (bS2 0) vD ++ (cS g bS2 (bE 0) (bU 0) ++ (cC g bE vE ++ (cT g bU vU ++ (cH g bH vH))))))))))))))))) H → va_D A (cM g bM vM ++ (cO g bO vO ++ (cF g bF (bD 0) (bS 0) (bH 0 0) (bRF 0) (bRT 0) vF ++ (cS g bS (bC 0) (bT 0) ++ (cC g bC vC ++ (cT g bT vT ++ (cR g bRT nRT (bG 0) (bB 0) vRT ++ (cL g bG vG ++ (cL g bB vB ++ (cR g bRF nRF (bGF 0) (bBF 0) vRF ++ (cL g bGF vGF ++ (cL g bBF vBF ++ (cD g bD (bS2 0) vD ++ (cS g bS2 (bE 0) (bU 0) ++ (cC g bE vE ++ (cT g bU vU ++ (cH g bH vH))))))))))))))))) → va_S A s.heap H locs → ∀ ls : Array Slot, lv_has ls 9 [(0, .ref b), (1, .ref (bF 0)), (2, .ref (bM 0)), (3, .ref (bO 1)), (4, .int x4)] → W p l e room_1 s m args below meth c H locs (cells + 1) (slots + 6) Q (F0 m 1532 ls [])) (vM : Vs) (vO : Vs) (vF : Vs) (vC : Vs) (vT : Vs) (vRT : Vs) (vG : Vs) (vB : Vs) (vRF : Vs) (vGF : Vs) (vBF : Vs) (vD : Vs) (vE : Vs) (vU : Vs) (vH : Hv) (x4 : Int32) (hf : f_L_c7 xs L nRT nRF self0 vM vO vF vC vT vRT vG vB vRF vGF vBF vD vE vU vH x4 = some ()) (H : Heap) (locs : List Loc) (hP : va_P g.1 vwCl (cM g bM vM ++ (cO g bO vO ++ (cF g bF (bD 0) (bS 0) (bH 0 0) (bRF 0) (bRT 0) vF ++ (cS g bS (bC 0) (bT 0) ++ (cC g bC vC ++ (cT g bT vT ++ (cR g bRT nRT (bG 0) (bB 0) vRT ++ (cL g bG vG ++ (cL g bB vB ++ (cR g bRF nRF (bGF 0) (bBF 0) vRF ++ (cL g bGF vGF ++ (cL g bBF vBF ++ (cD g bD (bS2 0) vD ++ (cS g bS2 (bE 0) (bU 0) ++ (cC g bE vE ++ (cT g bU vU ++ (cH g bH vH))))))))))))))))) H) (hD : va_D A (cM g bM vM ++ (cO g bO vO ++ (cF g bF (bD 0) (bS 0) (bH 0 0) (bRF 0) (bRT 0) vF ++ (cS g bS (bC 0) (bT 0) ++ (cC g bC vC ++ (cT g bT vT ++ (cR g bRT nRT (bG 0) (bB 0) vRT ++ (cL g bG vG ++ (cL g bB vB ++ (cR g bRF nRF (bGF 0) (bBF 0) vRF ++ (cL g bGF vGF ++ (cL g bBF vBF ++ (cD g bD (bS2 0) vD ++ (cS g bS2 (bE 0) (bU 0) ++ (cC g bE vE ++ (cT g bU vU ++ (cH g bH vH)))))))))))))))))) (hS : va_S A s.heap H locs) (ls : Array Slot) (hl : lv_has ls 9 [(0, .ref b), (1, .ref (bF 0)), (2, .ref (bM 0)), (3, .ref (bO 1)), (4, .int x4)]) : W p l e room_1 s m args below meth c H locs cells slots Q (F0 m 574 ls []) := by
  have hc0 : cells ≤ room_1.cells ∧ slots ≤ room_1.slots := ⟨by omega, by omega⟩
  unfold f_L_c7 at hf
  refine lv_aload_n hx hb dL_law_574 rfl (lv_at hl 1 rfl) ?_
  refine lv_aload_n hx hb dL_law_575 rfl (lv_at hl 0 rfl) ?_
  refine lv_iload hx hb dL_law_576 (lv_at hl 4 rfl) ?_
  refine lv_iconst (v := (1 : Int32)) hx hb dL_law_578 (by decide) ?_
  refine lv_iadd hx hb dL_law_579 ?_
  obtain ⟨h130, hf⟩ := gd_in hf
  refine va_sld hx hb hX hbl hbA hS h130 dL_law_580 ?_
  refine lv_aload_n hx hb dL_law_581 rfl (lv_at hl 0 rfl) ?_
  refine lv_iload hx hb dL_law_582 (lv_at hl 4 rfl) ?_
  refine lv_iconst (v := (2 : Int32)) hx hb dL_law_584 (by decide) ?_
  refine lv_iadd hx hb dL_law_585 ?_
  obtain ⟨h131, hf⟩ := gd_in hf
  refine va_sld hx hb hX hbl hbA hS h131 dL_law_586 ?_
  refine lv_aload_n hx hb dL_law_587 rfl (lv_at hl 0 rfl) ?_
  refine lv_iload hx hb dL_law_588 (lv_at hl 4 rfl) ?_
  refine lv_iconst (v := (3 : Int32)) hx hb dL_law_590 (by decide) ?_
  refine lv_iadd hx hb dL_law_591 ?_
  obtain ⟨h132, hf⟩ := gd_in hf
  refine va_sld hx hb hX hbl hbA hS h132 dL_law_592 ?_
  refine lv_aload_n hx hb dL_law_593 rfl (lv_at hl 3 rfl) ?_
  obtain ⟨r133, vO_134, vF_135, vRT_136, vG_137, vB_138, hg139, hf⟩ := o6_at hf
  refine k_siHQ ⟨hx, hb, hml, hown, htu⟩ hK hP hD hS hA hG (h_L_faulty l hst g bO vO bF (bD 0) (bH 0 0) (bRF 0) vF bS bC vC bT vT bRT nRT vRT bG vG bB vB (xs ((x4 + (1 : Int32))).toNatClampNeg) (xs ((x4 + (2 : Int32))).toNatClampNeg) (xs ((x4 + (3 : Int32))).toNatClampNeg) r133 vO_134 vF_135 vRT_136 vG_137 vB_138 hg139) (vx_cwSW 5 htu (gU_H mw_4_162 hcL_faulty) rfl rfl rfl hdL_faulty ⟨Nat.le_of_ble_eq_true rfl, Nat.le_of_ble_eq_true rfl⟩) (wr := (cM g bM vM ++ (cR g bRF nRF (bGF 0) (bBF 0) vRF ++ (cL g bGF vGF ++ (cL g bBF vBF ++ (cD g bD (bS2 0) vD ++ (cS g bS2 (bE 0) (bU 0) ++ (cC g bE vE ++ (cT g bU vU ++ (cH g bH vH)))))))))) (w2 := cM g bM vM ++ (cO g bO vO_134 ++ (cF g bF (bD 0) (bS 0) (bH 0 0) (bRF 0) (bRT 0) vF_135 ++ (cS g bS (bC 0) (bT 0) ++ (cC g bC vC ++ (cT g bT vT ++ (cR g bRT nRT (bG 0) (bB 0) vRT_136 ++ (cL g bG vG_137 ++ (cL g bB vB_138 ++ (cR g bRF nRF (bGF 0) (bBF 0) vRF ++ (cL g bGF vGF ++ (cL g bBF vBF ++ (cD g bD (bS2 0) vD ++ (cS g bS2 (bE 0) (bU 0) ++ (cC g bE vE ++ (cT g bU vU ++ (cH g bH vH))))))))))))))))) (kpc (fun P => by simp only [List.countP_append] <;> omega)) (kpc (fun P => by simp only [List.countP_append] <;> omega)) (As := [.ref (bF 0), .int (xs ((x4 + (1 : Int32))).toNatClampNeg), .int (xs ((x4 + (2 : Int32))).toNatClampNeg), .int (xs ((x4 + (3 : Int32))).toNatClampNeg), .ref (bO 1)]) (rest := []) rfl rfl hl.1 (Nat.le_of_ble_eq_true rfl) dL_law_594 (k1 := cells + 1) (n1 := slots + 6) rfl rfl hcr (fun H locs hP hD hS => ?_)
  refine lv_istore (lv' := [(5, .int r133), (0, .ref b), (1, .ref (bF 0)), (2, .ref (bM 0)), (3, .ref (bO 1)), (4, .int x4)]) hx hb dL_law_597 hl (by decide) rfl (fun ls hl => ?_)
  refine lv_aload_n hx hb dL_law_599 rfl (lv_at hl 3 rfl) ?_
  refine lv_aload_n hx hb dL_law_600 rfl (lv_at hl 1 rfl) ?_
  refine lv_iload hx hb dL_law_601 (lv_at hl 5 rfl) ?_
  refine lv_iconst (v := (1 : Int32)) hx hb dL_law_603 (by decide) ?_
  refine lv_iadd hx hb dL_law_604 ?_
  obtain ⟨h140, hf⟩ := gd_in hf
  refine va_sld hx hb hX hbl hbA hS h140 dL_law_605 ?_
  refine lv_aload_n hx hb dL_law_606 rfl (lv_at hl 1 rfl) ?_
  refine lv_iload hx hb dL_law_607 (lv_at hl 5 rfl) ?_
  refine lv_iconst (v := (2 : Int32)) hx hb dL_law_609 (by decide) ?_
  refine lv_iadd hx hb dL_law_610 ?_
  obtain ⟨h141, hf⟩ := gd_in hf
  refine va_sld hx hb hX hbl hbA hS h141 dL_law_611 ?_
  refine lv_aload_n hx hb dL_law_612 rfl (lv_at hl 1 rfl) ?_
  refine lv_iload hx hb dL_law_613 (lv_at hl 5 rfl) ?_
  refine lv_iconst (v := (3 : Int32)) hx hb dL_law_615 (by decide) ?_
  refine lv_iadd hx hb dL_law_616 ?_
  obtain ⟨h142, hf⟩ := gd_in hf
  refine va_sld hx hb hX hbl hbA hS h142 dL_law_617 ?_
  obtain ⟨r143, vM_144, hg145, hf⟩ := o2_at hf
  refine k_viQ ⟨hx, hb, hml, hown, htu⟩ hK hP hD hS hA hG (c_X8_faulty l g bM vM (xs ((x4 + (1 : Int32))).toNatClampNeg) (xs ((x4 + (2 : Int32))).toNatClampNeg) (xs ((x4 + (3 : Int32))).toNatClampNeg) r143 vM_144 hg145) (cwV 3 htu (gU_V mw_6_146 hcX8_faulty) rfl rfl rfl hdX8_faulty ⟨Nat.le_of_ble_eq_true rfl, Nat.le_of_ble_eq_true rfl⟩) (q0 := 0) (ci := 8) (fs := fcM bM vM) (q := (RX8, TX8, 23)) rfl rfl rfl (wr := (cO g bO vO_134 ++ (cF g bF (bD 0) (bS 0) (bH 0 0) (bRF 0) (bRT 0) vF_135 ++ (cS g bS (bC 0) (bT 0) ++ (cC g bC vC ++ (cT g bT vT ++ (cR g bRT nRT (bG 0) (bB 0) vRT_136 ++ (cL g bG vG_137 ++ (cL g bB vB_138 ++ (cR g bRF nRF (bGF 0) (bBF 0) vRF ++ (cL g bGF vGF ++ (cL g bBF vBF ++ (cD g bD (bS2 0) vD ++ (cS g bS2 (bE 0) (bU 0) ++ (cC g bE vE ++ (cT g bU vU ++ (cH g bH vH))))))))))))))))) (w2 := cM g bM vM_144 ++ (cO g bO vO_134 ++ (cF g bF (bD 0) (bS 0) (bH 0 0) (bRF 0) (bRT 0) vF_135 ++ (cS g bS (bC 0) (bT 0) ++ (cC g bC vC ++ (cT g bT vT ++ (cR g bRT nRT (bG 0) (bB 0) vRT_136 ++ (cL g bG vG_137 ++ (cL g bB vB_138 ++ (cR g bRF nRF (bGF 0) (bBF 0) vRF ++ (cL g bGF vGF ++ (cL g bBF vBF ++ (cD g bD (bS2 0) vD ++ (cS g bS2 (bE 0) (bU 0) ++ (cC g bE vE ++ (cT g bU vU ++ (cH g bH vH))))))))))))))))) (kpc (fun P => by simp only [List.countP_append] <;> omega)) (kpc (fun P => by simp only [List.countP_append] <;> omega)) (As := [.int (xs ((x4 + (1 : Int32))).toNatClampNeg), .int (xs ((x4 + (2 : Int32))).toNatClampNeg), .int (xs ((x4 + (3 : Int32))).toNatClampNeg)]) (rest := []) rfl rfl hl.1 (Nat.le_of_ble_eq_true rfl) dL_law_618 (k1 := cells + 1) (n1 := slots + 6) rfl rfl hcr (fun H locs hP hD hS => ?_)
  refine lv_istore (lv' := [(6, .int r143), (5, .int r133), (0, .ref b), (1, .ref (bF 0)), (2, .ref (bM 0)), (3, .ref (bO 1)), (4, .int x4)]) hx hb dL_law_621 hl (by decide) rfl (fun ls hl => ?_)
  refine lv_aload_n hx hb dL_law_623 rfl (lv_at hl 4 rfl) ?_
  obtain ⟨r146, hg147, hf⟩ := o1_at hf
  refine k_viQ ⟨hx, hb, hml, hown, htu⟩ hK hP hD hS hA hG (c_X8_thrown l g bM vM_144 r146 hg147) (cwV 0 htu (gU_V mw_5_143 hcX8_thrown) rfl rfl rfl hdX8_thrown ⟨Nat.le_of_ble_eq_true rfl, Nat.le_of_ble_eq_true rfl⟩) (q0 := 0) (ci := 8) (fs := fcM bM vM_144) (q := (RX8, TX8, 23)) rfl rfl rfl (wr := (cO g bO vO_134 ++ (cF g bF (bD 0) (bS 0) (bH 0 0) (bRF 0) (bRT 0) vF_135 ++ (cS g bS (bC 0) (bT 0) ++ (cC g bC vC ++ (cT g bT vT ++ (cR g bRT nRT (bG 0) (bB 0) vRT_136 ++ (cL g bG vG_137 ++ (cL g bB vB_138 ++ (cR g bRF nRF (bGF 0) (bBF 0) vRF ++ (cL g bGF vGF ++ (cL g bBF vBF ++ (cD g bD (bS2 0) vD ++ (cS g bS2 (bE 0) (bU 0) ++ (cC g bE vE ++ (cT g bU vU ++ (cH g bH vH))))))))))))))))) (w2 := cM g bM vM_144 ++ (cO g bO vO_134 ++ (cF g bF (bD 0) (bS 0) (bH 0 0) (bRF 0) (bRT 0) vF_135 ++ (cS g bS (bC 0) (bT 0) ++ (cC g bC vC ++ (cT g bT vT ++ (cR g bRT nRT (bG 0) (bB 0) vRT_136 ++ (cL g bG vG_137 ++ (cL g bB vB_138 ++ (cR g bRF nRF (bGF 0) (bBF 0) vRF ++ (cL g bGF vGF ++ (cL g bBF vBF ++ (cD g bD (bS2 0) vD ++ (cS g bS2 (bE 0) (bU 0) ++ (cC g bE vE ++ (cT g bU vU ++ (cH g bH vH))))))))))))))))) (kpc (fun P => by simp only [List.countP_append] <;> omega)) (kpc (fun P => by simp only [List.countP_append] <;> omega)) (As := []) (rest := []) rfl rfl hl.1 (Nat.le_of_ble_eq_true rfl) dL_law_624 (k1 := cells + 1) (n1 := slots + 6) rfl rfl hcr (fun H locs hP hD hS => ?_)
  refine lv_iload hx hb dL_law_627 (lv_at hl 1 rfl) ?_
  refine lv_icmp_eq (tgt := 634) hx hb dL_law_629 (by decide) (fun c148 => ?_) (fun c148 => ?_)
  · have hf := it_t hf c148
    refine lv_iload hx hb dL_law_634 (lv_at hl 1 rfl) ?_
    obtain ⟨k149, hk151, hf⟩ := jn_at hf
    have hJ150 : k149 = some () → ∀ (H : Heap) (locs : List Loc), va_P g.1 vwCl (cM g bM vM_144 ++ (cO g bO vO_134 ++ (cF g bF (bD 0) (bS 0) (bH 0 0) (bRF 0) (bRT 0) vF_135 ++ (cS g bS (bC 0) (bT 0) ++ (cC g bC vC ++ (cT g bT vT ++ (cR g bRT nRT (bG 0) (bB 0) vRT_136 ++ (cL g bG vG_137 ++ (cL g bB vB_138 ++ (cR g bRF nRF (bGF 0) (bBF 0) vRF ++ (cL g bGF vGF ++ (cL g bBF vBF ++ (cD g bD (bS2 0) vD ++ (cS g bS2 (bE 0) (bU 0) ++ (cC g bE vE ++ (cT g bU vU ++ (cH g bH vH))))))))))))))))) H → va_D A (cM g bM vM_144 ++ (cO g bO vO_134 ++ (cF g bF (bD 0) (bS 0) (bH 0 0) (bRF 0) (bRT 0) vF_135 ++ (cS g bS (bC 0) (bT 0) ++ (cC g bC vC ++ (cT g bT vT ++ (cR g bRT nRT (bG 0) (bB 0) vRT_136 ++ (cL g bG vG_137 ++ (cL g bB vB_138 ++ (cR g bRF nRF (bGF 0) (bBF 0) vRF ++ (cL g bGF vGF ++ (cL g bBF vBF ++ (cD g bD (bS2 0) vD ++ (cS g bS2 (bE 0) (bU 0) ++ (cC g bE vE ++ (cT g bU vU ++ (cH g bH vH))))))))))))))))) → va_S A s.heap H locs → ∀ ls : Array Slot, lv_has ls 9 [(0, .ref b), (1, .ref (bF 0)), (2, .ref (bM 0)), (3, .ref (bO 1)), (4, .int x4)] → W p l e room_1 s m args below meth c H locs (cells + 1) (slots + 6) Q (F0 m 651 ls []) := by
      intro hf H locs hP hD hS ls hl
      rw [hk151] at hf
      clear hk151
      refine lv_goto (tgt := 1532) hx hb dL_law_651 (by decide) ?_
      refine W.widen (k := cells + 1) (n := slots + 6) (by omega) (by omega) ?_
      exact ih vM_144 vO_134 vF_135 vC vT vRT_136 vG_137 vB_138 vRF vGF vBF vD vE vU vH x4 hf H locs hP hD hS _ (lv_sub hl [0, 1, 2, 3, 4] rfl)
    refine lv_if_ne (tgt := 651) hx hb dL_law_636 (by decide) (fun c152 => ?_) (fun c152 => ?_)
    · have hf := it_f hf c152
      refine W.widen (k := cells + 1) (n := slots + 6) (by omega) (by omega) ?_
      exact hJ150 hf H locs hP hD hS _ (lv_sub hl [2, 3, 4, 5, 6] rfl)
    · have hf := it_t hf c152
      refine lv_aload_n hx hb dL_law_639 rfl (lv_at hl 5 rfl) ?_
      refine lv_iconst (v := (0 : Int32)) hx hb dL_law_640 (by decide) ?_
      obtain ⟨h153, hf⟩ := gd_in hf
      refine va_lald (D := g.1) (f := (vO_134.2.2 0)) hx hb hK hP 14 1 rfl rfl h153 dL_law_641 ?_
      refine lv_iload hx hb dL_law_642 (lv_at hl 0 rfl) ?_
      refine lv_i2l (v := (r143).toInt64) hx hb dL_law_644 rfl ?_
      refine W.lcmp hx hb dL_law_645 ?_
      refine lv_if_eq (tgt := 651) hx hb dL_law_646 (by decide) (fun c154 => ?_) (fun c154 => ?_)
      · have hf := it_t hf c154
        refine W.widen (k := cells + 1) (n := slots + 6) (by omega) (by omega) ?_
        exact hJ150 hf H locs hP hD hS _ (lv_sub hl [2, 3, 4, 5, 6] rfl)
      · have hf := it_f hf c154
        refine lv_iconst (v := (0 : Int32)) hx hb dL_law_649 (by decide) ?_
        cases hf
  · have hf := it_f hf c148
    refine lv_iconst (v := (0 : Int32)) hx hb dL_law_632 (by decide) ?_
    cases hf
