def f_L_c8 (xs : Nat → Int32) (L : Nat) (nRT nRF : Nat) (self0 : Vs → Vs → Vs → Vs → Vs → Vs → Vs → Vs → Vs → Vs → Vs → Vs → Vs → Vs → Hv → Int32 → Option Unit) (vM : Vs) (vO : Vs) (vF : Vs) (vC : Vs) (vT : Vs) (vRT : Vs) (vG : Vs) (vB : Vs) (vRF : Vs) (vGF : Vs) (vBF : Vs) (vD : Vs) (vE : Vs) (vU : Vs) (vH : Hv) (x4 : Int32) : Option Unit :=
  gd (inb (x4 + (1 : Int32)) L) (gd (inb (x4 + (2 : Int32)) L) (o6 (f_L_finds vO vF vC vT nRT vRT vG vB (xs ((x4 + (1 : Int32))).toNatClampNeg) (xs ((x4 + (2 : Int32))).toNatClampNeg)) (fun (r157 : Int32) (vO_158 : Vs) (vF_159 : Vs) (vRT_160 : Vs) (vG_161 : Vs) (vB_162 : Vs) => gd (inb (x4 + (1 : Int32)) L) (gd (inb (x4 + (2 : Int32)) L) (o2 (f_X8_finds vM (xs ((x4 + (1 : Int32))).toNatClampNeg) (xs ((x4 + (2 : Int32))).toNatClampNeg)) (fun (r166 : Int32) (vM_167 : Vs) => o1 (f_X8_thrown vM_167) (fun (r169 : Int32) => if r169 = r157 then jn (self0 vM_167 vO_158 vF_159 vC vT vRT_160 vG_161 vB_162 vRF vGF vBF vD vE vU vH x4) (fun k172 => if r157 = 0 then gd (inb (0 : Int32) 1) (if (lg_cmp (vO_158.2.2 0 ((0 : Int32)).toNatClampNeg) ((r166).toInt64)) = 0 then k172 else none) else k172) else none)))))))
set_option maxHeartbeats 8000000 in
set_option maxRecDepth 100000 in
theorem law_c8 {p : Program} {e : Env} {s : State} {m : MethodId} {args : Array Value} {below : List Frame} {meth : Method} {c : Code} {Q : State → Prop} (l : Launch) (hst : l.stackTraces = false) (g : Gx) {A : Nat → Prop} {b L : Nat} {xs : Nat → Int32} (hx : p.tables.exec = Jvm.exec) (hb : c.code = cL_law) (hml : c.maxLocals = 9) (hown : s.vm.findClass RL = some m.cls) (htu : ∀ w ∈ UW, w.before args s = true) (hK : va_K g.1 vwCl (tyL g) s) (hG : BG g A s s.heap) (hA : ∀ q, s.heap.size ≤ q → A q) (hX : va_X b L xs s s.heap) (hbl : b < s.heap.size) (hbA : ¬ A b) (bM : Nat → Nat) (bO : Nat → Nat) (bF : Nat → Nat) (bS : Nat → Nat) (bC : Nat → Nat) (bT : Nat → Nat) (bRT : Nat → Nat) (bG : Nat → Nat) (bB : Nat → Nat) (bRF : Nat → Nat) (bGF : Nat → Nat) (bBF : Nat → Nat) (bD : Nat → Nat) (bS2 : Nat → Nat) (bE : Nat → Nat) (bU : Nat → Nat) (bH : Nat → Nat → Nat) (nRT nRF : Nat) (cells slots : Nat) (hcr : cells + 1 ≤ room_1.cells ∧ slots + 6 ≤ room_1.slots) (self0 : Vs → Vs → Vs → Vs → Vs → Vs → Vs → Vs → Vs → Vs → Vs → Vs → Vs → Vs → Hv → Int32 → Option Unit) (ih : ∀ (vM : Vs) (vO : Vs) (vF : Vs) (vC : Vs) (vT : Vs) (vRT : Vs) (vG : Vs) (vB : Vs) (vRF : Vs) (vGF : Vs) (vBF : Vs) (vD : Vs) (vE : Vs) (vU : Vs) (vH : Hv) (x4 : Int32), self0 vM vO vF vC vT vRT vG vB vRF vGF vBF vD vE vU vH x4 = some () → ∀ (H : Heap) (locs : List Loc), va_P g.1 vwCl (cM g bM vM ++ (cO g bO vO ++ (cF g bF (bD 0) (bS 0) (bH 0 0) (bRF 0) (bRT 0) vF ++ (cS g bS (bC 0) (bT 0) ++ (cC g bC vC ++ (cT g bT vT ++ (cR g bRT nRT (bG 0) (bB 0) vRT ++ (cL g bG vG ++ (cL g bB vB ++ (cR g bRF nRF (bGF 0) (bBF 0) vRF ++ (cL g bGF vGF ++ (cL g bBF vBF ++ (cD g bD (bS2 0) vD ++ (cS g bS2 (bE 0) (bU 0) ++ (cC g bE vE ++ (cT g bU vU ++ (cH g bH vH))))))))))))))))) H → va_D A (cM g bM vM ++ (cO g bO vO ++ (cF g bF (bD 0) (bS 0) (bH 0 0) (bRF 0) (bRT 0) vF ++ (cS g bS (bC 0) (bT 0) ++ (cC g bC vC ++ (cT g bT vT ++ (cR g bRT nRT (bG 0) (bB 0) vRT ++ (cL g bG vG ++ (cL g bB vB ++ (cR g bRF nRF (bGF 0) (bBF 0) vRF ++ (cL g bGF vGF ++ (cL g bBF vBF ++ (cD g bD (bS2 0) vD ++ (cS g bS2 (bE 0) (bU 0) ++ (cC g bE vE ++ (cT g bU vU ++ (cH g bH vH))))))))))))))))) → va_S A s.heap H locs → ∀ ls : Array Slot, lv_has ls 9 [(0, .ref b), (1, .ref (bF 0)), (2, .ref (bM 0)), (3, .ref (bO 1)), (4, .int x4)] → W p l e room_1 s m args below meth c H locs (cells + 1) (slots + 6) Q (F0 m 1532 ls [])) (vM : Vs) (vO : Vs) (vF : Vs) (vC : Vs) (vT : Vs) (vRT : Vs) (vG : Vs) (vB : Vs) (vRF : Vs) (vGF : Vs) (vBF : Vs) (vD : Vs) (vE : Vs) (vU : Vs) (vH : Hv) (x4 : Int32) (hf : f_L_c8 xs L nRT nRF self0 vM vO vF vC vT vRT vG vB vRF vGF vBF vD vE vU vH x4 = some ()) (H : Heap) (locs : List Loc) (hP : va_P g.1 vwCl (cM g bM vM ++ (cO g bO vO ++ (cF g bF (bD 0) (bS 0) (bH 0 0) (bRF 0) (bRT 0) vF ++ (cS g bS (bC 0) (bT 0) ++ (cC g bC vC ++ (cT g bT vT ++ (cR g bRT nRT (bG 0) (bB 0) vRT ++ (cL g bG vG ++ (cL g bB vB ++ (cR g bRF nRF (bGF 0) (bBF 0) vRF ++ (cL g bGF vGF ++ (cL g bBF vBF ++ (cD g bD (bS2 0) vD ++ (cS g bS2 (bE 0) (bU 0) ++ (cC g bE vE ++ (cT g bU vU ++ (cH g bH vH))))))))))))))))) H) (hD : va_D A (cM g bM vM ++ (cO g bO vO ++ (cF g bF (bD 0) (bS 0) (bH 0 0) (bRF 0) (bRT 0) vF ++ (cS g bS (bC 0) (bT 0) ++ (cC g bC vC ++ (cT g bT vT ++ (cR g bRT nRT (bG 0) (bB 0) vRT ++ (cL g bG vG ++ (cL g bB vB ++ (cR g bRF nRF (bGF 0) (bBF 0) vRF ++ (cL g bGF vGF ++ (cL g bBF vBF ++ (cD g bD (bS2 0) vD ++ (cS g bS2 (bE 0) (bU 0) ++ (cC g bE vE ++ (cT g bU vU ++ (cH g bH vH)))))))))))))))))) (hS : va_S A s.heap H locs) (ls : Array Slot) (hl : lv_has ls 9 [(0, .ref b), (1, .ref (bF 0)), (2, .ref (bM 0)), (3, .ref (bO 1)), (4, .int x4)]) : W p l e room_1 s m args below meth c H locs cells slots Q (F0 m 654 ls []) := by
  have hc0 : cells ≤ room_1.cells ∧ slots ≤ room_1.slots := ⟨by omega, by omega⟩
  unfold f_L_c8 at hf
  refine lv_aload_n hx hb dL_law_654 rfl (lv_at hl 1 rfl) ?_
  refine lv_aload_n hx hb dL_law_655 rfl (lv_at hl 0 rfl) ?_
  refine lv_iload hx hb dL_law_656 (lv_at hl 4 rfl) ?_
  refine lv_iconst (v := (1 : Int32)) hx hb dL_law_658 (by decide) ?_
  refine lv_iadd hx hb dL_law_659 ?_
  obtain ⟨h155, hf⟩ := gd_in hf
  refine va_sld hx hb hX hbl hbA hS h155 dL_law_660 ?_
  refine lv_aload_n hx hb dL_law_661 rfl (lv_at hl 0 rfl) ?_
  refine lv_iload hx hb dL_law_662 (lv_at hl 4 rfl) ?_
  refine lv_iconst (v := (2 : Int32)) hx hb dL_law_664 (by decide) ?_
  refine lv_iadd hx hb dL_law_665 ?_
  obtain ⟨h156, hf⟩ := gd_in hf
  refine va_sld hx hb hX hbl hbA hS h156 dL_law_666 ?_
  refine lv_aload_n hx hb dL_law_667 rfl (lv_at hl 3 rfl) ?_
  obtain ⟨r157, vO_158, vF_159, vRT_160, vG_161, vB_162, hg163, hf⟩ := o6_at hf
  refine k_siHQ ⟨hx, hb, hml, hown, htu⟩ hK hP hD hS hA hG (h_L_finds l hst g bO vO bF (bD 0) (bH 0 0) (bRF 0) vF bS bC vC bT vT bRT nRT vRT bG vG bB vB (xs ((x4 + (1 : Int32))).toNatClampNeg) (xs ((x4 + (2 : Int32))).toNatClampNeg) r157 vO_158 vF_159 vRT_160 vG_161 vB_162 hg163) (vx_cwSW 4 htu (gU_H mw_4_175 hcL_finds) rfl rfl rfl hdL_finds ⟨Nat.le_of_ble_eq_true rfl, Nat.le_of_ble_eq_true rfl⟩) (wr := (cM g bM vM ++ (cR g bRF nRF (bGF 0) (bBF 0) vRF ++ (cL g bGF vGF ++ (cL g bBF vBF ++ (cD g bD (bS2 0) vD ++ (cS g bS2 (bE 0) (bU 0) ++ (cC g bE vE ++ (cT g bU vU ++ (cH g bH vH)))))))))) (w2 := cM g bM vM ++ (cO g bO vO_158 ++ (cF g bF (bD 0) (bS 0) (bH 0 0) (bRF 0) (bRT 0) vF_159 ++ (cS g bS (bC 0) (bT 0) ++ (cC g bC vC ++ (cT g bT vT ++ (cR g bRT nRT (bG 0) (bB 0) vRT_160 ++ (cL g bG vG_161 ++ (cL g bB vB_162 ++ (cR g bRF nRF (bGF 0) (bBF 0) vRF ++ (cL g bGF vGF ++ (cL g bBF vBF ++ (cD g bD (bS2 0) vD ++ (cS g bS2 (bE 0) (bU 0) ++ (cC g bE vE ++ (cT g bU vU ++ (cH g bH vH))))))))))))))))) (kpc (fun P => by simp only [List.countP_append] <;> omega)) (kpc (fun P => by simp only [List.countP_append] <;> omega)) (As := [.ref (bF 0), .int (xs ((x4 + (1 : Int32))).toNatClampNeg), .int (xs ((x4 + (2 : Int32))).toNatClampNeg), .ref (bO 1)]) (rest := []) rfl rfl hl.1 (Nat.le_of_ble_eq_true rfl) dL_law_668 (k1 := cells + 1) (n1 := slots + 6) rfl rfl hcr (fun H locs hP hD hS => ?_)
  refine lv_istore (lv' := [(5, .int r157), (0, .ref b), (1, .ref (bF 0)), (2, .ref (bM 0)), (3, .ref (bO 1)), (4, .int x4)]) hx hb dL_law_671 hl (by decide) rfl (fun ls hl => ?_)
  refine lv_aload_n hx hb dL_law_673 rfl (lv_at hl 3 rfl) ?_
  refine lv_aload_n hx hb dL_law_674 rfl (lv_at hl 1 rfl) ?_
  refine lv_iload hx hb dL_law_675 (lv_at hl 5 rfl) ?_
  refine lv_iconst (v := (1 : Int32)) hx hb dL_law_677 (by decide) ?_
  refine lv_iadd hx hb dL_law_678 ?_
  obtain ⟨h164, hf⟩ := gd_in hf
  refine va_sld hx hb hX hbl hbA hS h164 dL_law_679 ?_
  refine lv_aload_n hx hb dL_law_680 rfl (lv_at hl 1 rfl) ?_
  refine lv_iload hx hb dL_law_681 (lv_at hl 5 rfl) ?_
  refine lv_iconst (v := (2 : Int32)) hx hb dL_law_683 (by decide) ?_
  refine lv_iadd hx hb dL_law_684 ?_
  obtain ⟨h165, hf⟩ := gd_in hf
  refine va_sld hx hb hX hbl hbA hS h165 dL_law_685 ?_
  obtain ⟨r166, vM_167, hg168, hf⟩ := o2_at hf
  refine k_viQ ⟨hx, hb, hml, hown, htu⟩ hK hP hD hS hA hG (c_X8_finds l g bM vM (xs ((x4 + (1 : Int32))).toNatClampNeg) (xs ((x4 + (2 : Int32))).toNatClampNeg) r166 vM_167 hg168) (cwV 2 htu (gU_V mw_6_154 hcX8_finds) rfl rfl rfl hdX8_finds ⟨Nat.le_of_ble_eq_true rfl, Nat.le_of_ble_eq_true rfl⟩) (q0 := 0) (ci := 8) (fs := fcM bM vM) (q := (RX8, TX8, 23)) rfl rfl rfl (wr := (cO g bO vO_158 ++ (cF g bF (bD 0) (bS 0) (bH 0 0) (bRF 0) (bRT 0) vF_159 ++ (cS g bS (bC 0) (bT 0) ++ (cC g bC vC ++ (cT g bT vT ++ (cR g bRT nRT (bG 0) (bB 0) vRT_160 ++ (cL g bG vG_161 ++ (cL g bB vB_162 ++ (cR g bRF nRF (bGF 0) (bBF 0) vRF ++ (cL g bGF vGF ++ (cL g bBF vBF ++ (cD g bD (bS2 0) vD ++ (cS g bS2 (bE 0) (bU 0) ++ (cC g bE vE ++ (cT g bU vU ++ (cH g bH vH))))))))))))))))) (w2 := cM g bM vM_167 ++ (cO g bO vO_158 ++ (cF g bF (bD 0) (bS 0) (bH 0 0) (bRF 0) (bRT 0) vF_159 ++ (cS g bS (bC 0) (bT 0) ++ (cC g bC vC ++ (cT g bT vT ++ (cR g bRT nRT (bG 0) (bB 0) vRT_160 ++ (cL g bG vG_161 ++ (cL g bB vB_162 ++ (cR g bRF nRF (bGF 0) (bBF 0) vRF ++ (cL g bGF vGF ++ (cL g bBF vBF ++ (cD g bD (bS2 0) vD ++ (cS g bS2 (bE 0) (bU 0) ++ (cC g bE vE ++ (cT g bU vU ++ (cH g bH vH))))))))))))))))) (kpc (fun P => by simp only [List.countP_append] <;> omega)) (kpc (fun P => by simp only [List.countP_append] <;> omega)) (As := [.int (xs ((x4 + (1 : Int32))).toNatClampNeg), .int (xs ((x4 + (2 : Int32))).toNatClampNeg)]) (rest := []) rfl rfl hl.1 (Nat.le_of_ble_eq_true rfl) dL_law_686 (k1 := cells + 1) (n1 := slots + 6) rfl rfl hcr (fun H locs hP hD hS => ?_)
  refine lv_istore (lv' := [(6, .int r166), (5, .int r157), (0, .ref b), (1, .ref (bF 0)), (2, .ref (bM 0)), (3, .ref (bO 1)), (4, .int x4)]) hx hb dL_law_689 hl (by decide) rfl (fun ls hl => ?_)
  refine lv_aload_n hx hb dL_law_691 rfl (lv_at hl 4 rfl) ?_
  obtain ⟨r169, hg170, hf⟩ := o1_at hf
  refine k_viQ ⟨hx, hb, hml, hown, htu⟩ hK hP hD hS hA hG (c_X8_thrown l g bM vM_167 r169 hg170) (cwV 0 htu (gU_V mw_5_143 hcX8_thrown) rfl rfl rfl hdX8_thrown ⟨Nat.le_of_ble_eq_true rfl, Nat.le_of_ble_eq_true rfl⟩) (q0 := 0) (ci := 8) (fs := fcM bM vM_167) (q := (RX8, TX8, 23)) rfl rfl rfl (wr := (cO g bO vO_158 ++ (cF g bF (bD 0) (bS 0) (bH 0 0) (bRF 0) (bRT 0) vF_159 ++ (cS g bS (bC 0) (bT 0) ++ (cC g bC vC ++ (cT g bT vT ++ (cR g bRT nRT (bG 0) (bB 0) vRT_160 ++ (cL g bG vG_161 ++ (cL g bB vB_162 ++ (cR g bRF nRF (bGF 0) (bBF 0) vRF ++ (cL g bGF vGF ++ (cL g bBF vBF ++ (cD g bD (bS2 0) vD ++ (cS g bS2 (bE 0) (bU 0) ++ (cC g bE vE ++ (cT g bU vU ++ (cH g bH vH))))))))))))))))) (w2 := cM g bM vM_167 ++ (cO g bO vO_158 ++ (cF g bF (bD 0) (bS 0) (bH 0 0) (bRF 0) (bRT 0) vF_159 ++ (cS g bS (bC 0) (bT 0) ++ (cC g bC vC ++ (cT g bT vT ++ (cR g bRT nRT (bG 0) (bB 0) vRT_160 ++ (cL g bG vG_161 ++ (cL g bB vB_162 ++ (cR g bRF nRF (bGF 0) (bBF 0) vRF ++ (cL g bGF vGF ++ (cL g bBF vBF ++ (cD g bD (bS2 0) vD ++ (cS g bS2 (bE 0) (bU 0) ++ (cC g bE vE ++ (cT g bU vU ++ (cH g bH vH))))))))))))))))) (kpc (fun P => by simp only [List.countP_append] <;> omega)) (kpc (fun P => by simp only [List.countP_append] <;> omega)) (As := []) (rest := []) rfl rfl hl.1 (Nat.le_of_ble_eq_true rfl) dL_law_692 (k1 := cells + 1) (n1 := slots + 6) rfl rfl hcr (fun H locs hP hD hS => ?_)
  refine lv_iload hx hb dL_law_695 (lv_at hl 1 rfl) ?_
  refine lv_icmp_eq (tgt := 702) hx hb dL_law_697 (by decide) (fun c171 => ?_) (fun c171 => ?_)
  · have hf := it_t hf c171
    refine lv_iload hx hb dL_law_702 (lv_at hl 1 rfl) ?_
    obtain ⟨k172, hk174, hf⟩ := jn_at hf
    have hJ173 : k172 = some () → ∀ (H : Heap) (locs : List Loc), va_P g.1 vwCl (cM g bM vM_167 ++ (cO g bO vO_158 ++ (cF g bF (bD 0) (bS 0) (bH 0 0) (bRF 0) (bRT 0) vF_159 ++ (cS g bS (bC 0) (bT 0) ++ (cC g bC vC ++ (cT g bT vT ++ (cR g bRT nRT (bG 0) (bB 0) vRT_160 ++ (cL g bG vG_161 ++ (cL g bB vB_162 ++ (cR g bRF nRF (bGF 0) (bBF 0) vRF ++ (cL g bGF vGF ++ (cL g bBF vBF ++ (cD g bD (bS2 0) vD ++ (cS g bS2 (bE 0) (bU 0) ++ (cC g bE vE ++ (cT g bU vU ++ (cH g bH vH))))))))))))))))) H → va_D A (cM g bM vM_167 ++ (cO g bO vO_158 ++ (cF g bF (bD 0) (bS 0) (bH 0 0) (bRF 0) (bRT 0) vF_159 ++ (cS g bS (bC 0) (bT 0) ++ (cC g bC vC ++ (cT g bT vT ++ (cR g bRT nRT (bG 0) (bB 0) vRT_160 ++ (cL g bG vG_161 ++ (cL g bB vB_162 ++ (cR g bRF nRF (bGF 0) (bBF 0) vRF ++ (cL g bGF vGF ++ (cL g bBF vBF ++ (cD g bD (bS2 0) vD ++ (cS g bS2 (bE 0) (bU 0) ++ (cC g bE vE ++ (cT g bU vU ++ (cH g bH vH))))))))))))))))) → va_S A s.heap H locs → ∀ ls : Array Slot, lv_has ls 9 [(0, .ref b), (1, .ref (bF 0)), (2, .ref (bM 0)), (3, .ref (bO 1)), (4, .int x4)] → W p l e room_1 s m args below meth c H locs (cells + 1) (slots + 6) Q (F0 m 719 ls []) := by
      intro hf H locs hP hD hS ls hl
      rw [hk174] at hf
      clear hk174
      refine lv_goto (tgt := 1532) hx hb dL_law_719 (by decide) ?_
      refine W.widen (k := cells + 1) (n := slots + 6) (by omega) (by omega) ?_
      exact ih vM_167 vO_158 vF_159 vC vT vRT_160 vG_161 vB_162 vRF vGF vBF vD vE vU vH x4 hf H locs hP hD hS _ (lv_sub hl [0, 1, 2, 3, 4] rfl)
    refine lv_if_ne (tgt := 719) hx hb dL_law_704 (by decide) (fun c175 => ?_) (fun c175 => ?_)
    · have hf := it_f hf c175
      refine W.widen (k := cells + 1) (n := slots + 6) (by omega) (by omega) ?_
      exact hJ173 hf H locs hP hD hS _ (lv_sub hl [2, 3, 4, 5, 6] rfl)
    · have hf := it_t hf c175
      refine lv_aload_n hx hb dL_law_707 rfl (lv_at hl 5 rfl) ?_
      refine lv_iconst (v := (0 : Int32)) hx hb dL_law_708 (by decide) ?_
      obtain ⟨h176, hf⟩ := gd_in hf
      refine va_lald (D := g.1) (f := (vO_158.2.2 0)) hx hb hK hP 14 1 rfl rfl h176 dL_law_709 ?_
      refine lv_iload hx hb dL_law_710 (lv_at hl 0 rfl) ?_
      refine lv_i2l (v := (r166).toInt64) hx hb dL_law_712 rfl ?_
      refine W.lcmp hx hb dL_law_713 ?_
      refine lv_if_eq (tgt := 719) hx hb dL_law_714 (by decide) (fun c177 => ?_) (fun c177 => ?_)
      · have hf := it_t hf c177
        refine W.widen (k := cells + 1) (n := slots + 6) (by omega) (by omega) ?_
        exact hJ173 hf H locs hP hD hS _ (lv_sub hl [2, 3, 4, 5, 6] rfl)
      · have hf := it_f hf c177
        refine lv_iconst (v := (0 : Int32)) hx hb dL_law_717 (by decide) ?_
        cases hf
  · have hf := it_f hf c171
    refine lv_iconst (v := (0 : Int32)) hx hb dL_law_700 (by decide) ?_
    cases hf
def f_L_c9 (xs : Nat → Int32) (L : Nat) (nRT nRF : Nat) (self0 : Vs → Vs → Vs → Vs → Vs → Vs → Vs → Vs → Vs → Vs → Vs → Vs → Vs → Vs → Hv → Int32 → Option Unit) (vM : Vs) (vO : Vs) (vF : Vs) (vC : Vs) (vT : Vs) (vRT : Vs) (vG : Vs) (vB : Vs) (vRF : Vs) (vGF : Vs) (vBF : Vs) (vD : Vs) (vE : Vs) (vU : Vs) (vH : Hv) (x4 : Int32) : Option Unit :=
  gd (inb (x4 + (1 : Int32)) L) (gd (inb (x4 + (2 : Int32)) L) (gd (inb (x4 + (3 : Int32)) L) (o6 (f_L_tellsApart vO vF vC vT nRT vRT vG vB (xs ((x4 + (1 : Int32))).toNatClampNeg) (xs ((x4 + (2 : Int32))).toNatClampNeg) (xs ((x4 + (3 : Int32))).toNatClampNeg)) (fun (r181 : Int32) (vO_182 : Vs) (vF_183 : Vs) (vRT_184 : Vs) (vG_185 : Vs) (vB_186 : Vs) => gd (inb (x4 + (1 : Int32)) L) (gd (inb (x4 + (2 : Int32)) L) (gd (inb (x4 + (3 : Int32)) L) (o2 (f_X8_tellsApart vM (xs ((x4 + (1 : Int32))).toNatClampNeg) (xs ((x4 + (2 : Int32))).toNatClampNeg) (xs ((x4 + (3 : Int32))).toNatClampNeg)) (fun (r191 : Int32) (vM_192 : Vs) => o1 (f_X8_thrown vM_192) (fun (r194 : Int32) => if r194 = r181 then jn (self0 vM_192 vO_182 vF_183 vC vT vRT_184 vG_185 vB_186 vRF vGF vBF vD vE vU vH x4) (fun k197 => if r181 = 0 then gd (inb (0 : Int32) 1) (jn (fun (t202 : Int64) => if (lg_cmp (vO_182.2.2 0 ((0 : Int32)).toNatClampNeg) t202) = 0 then k197 else none) (fun k203 => if r191 = 0 then k203 (0 : Int64) else k203 (1 : Int64))) else k197) else none)))))))))
set_option maxHeartbeats 8000000 in
set_option maxRecDepth 100000 in
theorem law_c9 {p : Program} {e : Env} {s : State} {m : MethodId} {args : Array Value} {below : List Frame} {meth : Method} {c : Code} {Q : State → Prop} (l : Launch) (hst : l.stackTraces = false) (g : Gx) {A : Nat → Prop} {b L : Nat} {xs : Nat → Int32} (hx : p.tables.exec = Jvm.exec) (hb : c.code = cL_law) (hml : c.maxLocals = 9) (hown : s.vm.findClass RL = some m.cls) (htu : ∀ w ∈ UW, w.before args s = true) (hK : va_K g.1 vwCl (tyL g) s) (hG : BG g A s s.heap) (hA : ∀ q, s.heap.size ≤ q → A q) (hX : va_X b L xs s s.heap) (hbl : b < s.heap.size) (hbA : ¬ A b) (bM : Nat → Nat) (bO : Nat → Nat) (bF : Nat → Nat) (bS : Nat → Nat) (bC : Nat → Nat) (bT : Nat → Nat) (bRT : Nat → Nat) (bG : Nat → Nat) (bB : Nat → Nat) (bRF : Nat → Nat) (bGF : Nat → Nat) (bBF : Nat → Nat) (bD : Nat → Nat) (bS2 : Nat → Nat) (bE : Nat → Nat) (bU : Nat → Nat) (bH : Nat → Nat → Nat) (nRT nRF : Nat) (cells slots : Nat) (hcr : cells + 1 ≤ room_1.cells ∧ slots + 6 ≤ room_1.slots) (self0 : Vs → Vs → Vs → Vs → Vs → Vs → Vs → Vs → Vs → Vs → Vs → Vs → Vs → Vs → Hv → Int32 → Option Unit) (ih : ∀ (vM : Vs) (vO : Vs) (vF : Vs) (vC : Vs) (vT : Vs) (vRT : Vs) (vG : Vs) (vB : Vs) (vRF : Vs) (vGF : Vs) (vBF : Vs) (vD : Vs) (vE : Vs) (vU : Vs) (vH : Hv) (x4 : Int32), self0 vM vO vF vC vT vRT vG vB vRF vGF vBF vD vE vU vH x4 = some () → ∀ (H : Heap) (locs : List Loc), va_P g.1 vwCl (cM g bM vM ++ (cO g bO vO ++ (cF g bF (bD 0) (bS 0) (bH 0 0) (bRF 0) (bRT 0) vF ++ (cS g bS (bC 0) (bT 0) ++ (cC g bC vC ++ (cT g bT vT ++ (cR g bRT nRT (bG 0) (bB 0) vRT ++ (cL g bG vG ++ (cL g bB vB ++ (cR g bRF nRF (bGF 0) (bBF 0) vRF ++ (cL g bGF vGF ++ (cL g bBF vBF ++ (cD g bD (bS2 0) vD ++ (cS g bS2 (bE 0) (bU 0) ++ (cC g bE vE ++ (cT g bU vU ++ (cH g bH vH))))))))))))))))) H → va_D A (cM g bM vM ++ (cO g bO vO ++ (cF g bF (bD 0) (bS 0) (bH 0 0) (bRF 0) (bRT 0) vF ++ (cS g bS (bC 0) (bT 0) ++ (cC g bC vC ++ (cT g bT vT ++ (cR g bRT nRT (bG 0) (bB 0) vRT ++ (cL g bG vG ++ (cL g bB vB ++ (cR g bRF nRF (bGF 0) (bBF 0) vRF ++ (cL g bGF vGF ++ (cL g bBF vBF ++ (cD g bD (bS2 0) vD ++ (cS g bS2 (bE 0) (bU 0) ++ (cC g bE vE ++ (cT g bU vU ++ (cH g bH vH))))))))))))))))) → va_S A s.heap H locs → ∀ ls : Array Slot, lv_has ls 9 [(0, .ref b), (1, .ref (bF 0)), (2, .ref (bM 0)), (3, .ref (bO 1)), (4, .int x4)] → W p l e room_1 s m args below meth c H locs (cells + 1) (slots + 6) Q (F0 m 1532 ls [])) (vM : Vs) (vO : Vs) (vF : Vs) (vC : Vs) (vT : Vs) (vRT : Vs) (vG : Vs) (vB : Vs) (vRF : Vs) (vGF : Vs) (vBF : Vs) (vD : Vs) (vE : Vs) (vU : Vs) (vH : Hv) (x4 : Int32) (hf : f_L_c9 xs L nRT nRF self0 vM vO vF vC vT vRT vG vB vRF vGF vBF vD vE vU vH x4 = some ()) (H : Heap) (locs : List Loc) (hP : va_P g.1 vwCl (cM g bM vM ++ (cO g bO vO ++ (cF g bF (bD 0) (bS 0) (bH 0 0) (bRF 0) (bRT 0) vF ++ (cS g bS (bC 0) (bT 0) ++ (cC g bC vC ++ (cT g bT vT ++ (cR g bRT nRT (bG 0) (bB 0) vRT ++ (cL g bG vG ++ (cL g bB vB ++ (cR g bRF nRF (bGF 0) (bBF 0) vRF ++ (cL g bGF vGF ++ (cL g bBF vBF ++ (cD g bD (bS2 0) vD ++ (cS g bS2 (bE 0) (bU 0) ++ (cC g bE vE ++ (cT g bU vU ++ (cH g bH vH))))))))))))))))) H) (hD : va_D A (cM g bM vM ++ (cO g bO vO ++ (cF g bF (bD 0) (bS 0) (bH 0 0) (bRF 0) (bRT 0) vF ++ (cS g bS (bC 0) (bT 0) ++ (cC g bC vC ++ (cT g bT vT ++ (cR g bRT nRT (bG 0) (bB 0) vRT ++ (cL g bG vG ++ (cL g bB vB ++ (cR g bRF nRF (bGF 0) (bBF 0) vRF ++ (cL g bGF vGF ++ (cL g bBF vBF ++ (cD g bD (bS2 0) vD ++ (cS g bS2 (bE 0) (bU 0) ++ (cC g bE vE ++ (cT g bU vU ++ (cH g bH vH)))))))))))))))))) (hS : va_S A s.heap H locs) (ls : Array Slot) (hl : lv_has ls 9 [(0, .ref b), (1, .ref (bF 0)), (2, .ref (bM 0)), (3, .ref (bO 1)), (4, .int x4)]) : W p l e room_1 s m args below meth c H locs cells slots Q (F0 m 722 ls []) := by
  have hc0 : cells ≤ room_1.cells ∧ slots ≤ room_1.slots := ⟨by omega, by omega⟩
  unfold f_L_c9 at hf
  refine lv_aload_n hx hb dL_law_722 rfl (lv_at hl 1 rfl) ?_
  refine lv_aload_n hx hb dL_law_723 rfl (lv_at hl 0 rfl) ?_
  refine lv_iload hx hb dL_law_724 (lv_at hl 4 rfl) ?_
  refine lv_iconst (v := (1 : Int32)) hx hb dL_law_726 (by decide) ?_
  refine lv_iadd hx hb dL_law_727 ?_
  obtain ⟨h178, hf⟩ := gd_in hf
  refine va_sld hx hb hX hbl hbA hS h178 dL_law_728 ?_
  refine lv_aload_n hx hb dL_law_729 rfl (lv_at hl 0 rfl) ?_
  refine lv_iload hx hb dL_law_730 (lv_at hl 4 rfl) ?_
  refine lv_iconst (v := (2 : Int32)) hx hb dL_law_732 (by decide) ?_
  refine lv_iadd hx hb dL_law_733 ?_
  obtain ⟨h179, hf⟩ := gd_in hf
  refine va_sld hx hb hX hbl hbA hS h179 dL_law_734 ?_
  refine lv_aload_n hx hb dL_law_735 rfl (lv_at hl 0 rfl) ?_
  refine lv_iload hx hb dL_law_736 (lv_at hl 4 rfl) ?_
  refine lv_iconst (v := (3 : Int32)) hx hb dL_law_738 (by decide) ?_
  refine lv_iadd hx hb dL_law_739 ?_
  obtain ⟨h180, hf⟩ := gd_in hf
  refine va_sld hx hb hX hbl hbA hS h180 dL_law_740 ?_
  refine lv_aload_n hx hb dL_law_741 rfl (lv_at hl 3 rfl) ?_
  obtain ⟨r181, vO_182, vF_183, vRT_184, vG_185, vB_186, hg187, hf⟩ := o6_at hf
  refine k_siHQ ⟨hx, hb, hml, hown, htu⟩ hK hP hD hS hA hG (h_L_tellsApart l hst g bO vO bF (bD 0) (bH 0 0) (bRF 0) vF bS bC vC bT vT bRT nRT vRT bG vG bB vB (xs ((x4 + (1 : Int32))).toNatClampNeg) (xs ((x4 + (2 : Int32))).toNatClampNeg) (xs ((x4 + (3 : Int32))).toNatClampNeg) r181 vO_182 vF_183 vRT_184 vG_185 vB_186 hg187) (vx_cwSW 5 htu (gU_H mw_4_188 hcL_tellsApart) rfl rfl rfl hdL_tellsApart ⟨Nat.le_of_ble_eq_true rfl, Nat.le_of_ble_eq_true rfl⟩) (wr := (cM g bM vM ++ (cR g bRF nRF (bGF 0) (bBF 0) vRF ++ (cL g bGF vGF ++ (cL g bBF vBF ++ (cD g bD (bS2 0) vD ++ (cS g bS2 (bE 0) (bU 0) ++ (cC g bE vE ++ (cT g bU vU ++ (cH g bH vH)))))))))) (w2 := cM g bM vM ++ (cO g bO vO_182 ++ (cF g bF (bD 0) (bS 0) (bH 0 0) (bRF 0) (bRT 0) vF_183 ++ (cS g bS (bC 0) (bT 0) ++ (cC g bC vC ++ (cT g bT vT ++ (cR g bRT nRT (bG 0) (bB 0) vRT_184 ++ (cL g bG vG_185 ++ (cL g bB vB_186 ++ (cR g bRF nRF (bGF 0) (bBF 0) vRF ++ (cL g bGF vGF ++ (cL g bBF vBF ++ (cD g bD (bS2 0) vD ++ (cS g bS2 (bE 0) (bU 0) ++ (cC g bE vE ++ (cT g bU vU ++ (cH g bH vH))))))))))))))))) (kpc (fun P => by simp only [List.countP_append] <;> omega)) (kpc (fun P => by simp only [List.countP_append] <;> omega)) (As := [.ref (bF 0), .int (xs ((x4 + (1 : Int32))).toNatClampNeg), .int (xs ((x4 + (2 : Int32))).toNatClampNeg), .int (xs ((x4 + (3 : Int32))).toNatClampNeg), .ref (bO 1)]) (rest := []) rfl rfl hl.1 (Nat.le_of_ble_eq_true rfl) dL_law_742 (k1 := cells + 1) (n1 := slots + 6) rfl rfl hcr (fun H locs hP hD hS => ?_)
  refine lv_istore (lv' := [(5, .int r181), (0, .ref b), (1, .ref (bF 0)), (2, .ref (bM 0)), (3, .ref (bO 1)), (4, .int x4)]) hx hb dL_law_745 hl (by decide) rfl (fun ls hl => ?_)
  refine lv_aload_n hx hb dL_law_747 rfl (lv_at hl 3 rfl) ?_
  refine lv_aload_n hx hb dL_law_748 rfl (lv_at hl 1 rfl) ?_
  refine lv_iload hx hb dL_law_749 (lv_at hl 5 rfl) ?_
  refine lv_iconst (v := (1 : Int32)) hx hb dL_law_751 (by decide) ?_
  refine lv_iadd hx hb dL_law_752 ?_
  obtain ⟨h188, hf⟩ := gd_in hf
  refine va_sld hx hb hX hbl hbA hS h188 dL_law_753 ?_
  refine lv_aload_n hx hb dL_law_754 rfl (lv_at hl 1 rfl) ?_
  refine lv_iload hx hb dL_law_755 (lv_at hl 5 rfl) ?_
  refine lv_iconst (v := (2 : Int32)) hx hb dL_law_757 (by decide) ?_
  refine lv_iadd hx hb dL_law_758 ?_
  obtain ⟨h189, hf⟩ := gd_in hf
  refine va_sld hx hb hX hbl hbA hS h189 dL_law_759 ?_
  refine lv_aload_n hx hb dL_law_760 rfl (lv_at hl 1 rfl) ?_
  refine lv_iload hx hb dL_law_761 (lv_at hl 5 rfl) ?_
  refine lv_iconst (v := (3 : Int32)) hx hb dL_law_763 (by decide) ?_
  refine lv_iadd hx hb dL_law_764 ?_
  obtain ⟨h190, hf⟩ := gd_in hf
  refine va_sld hx hb hX hbl hbA hS h190 dL_law_765 ?_
  obtain ⟨r191, vM_192, hg193, hf⟩ := o2_at hf
  refine k_viQ ⟨hx, hb, hml, hown, htu⟩ hK hP hD hS hA hG (c_X8_tellsApart l g bM vM (xs ((x4 + (1 : Int32))).toNatClampNeg) (xs ((x4 + (2 : Int32))).toNatClampNeg) (xs ((x4 + (3 : Int32))).toNatClampNeg) r191 vM_192 hg193) (cwV 3 htu (gU_V mw_6_158 hcX8_tellsApart) rfl rfl rfl hdX8_tellsApart ⟨Nat.le_of_ble_eq_true rfl, Nat.le_of_ble_eq_true rfl⟩) (q0 := 0) (ci := 8) (fs := fcM bM vM) (q := (RX8, TX8, 23)) rfl rfl rfl (wr := (cO g bO vO_182 ++ (cF g bF (bD 0) (bS 0) (bH 0 0) (bRF 0) (bRT 0) vF_183 ++ (cS g bS (bC 0) (bT 0) ++ (cC g bC vC ++ (cT g bT vT ++ (cR g bRT nRT (bG 0) (bB 0) vRT_184 ++ (cL g bG vG_185 ++ (cL g bB vB_186 ++ (cR g bRF nRF (bGF 0) (bBF 0) vRF ++ (cL g bGF vGF ++ (cL g bBF vBF ++ (cD g bD (bS2 0) vD ++ (cS g bS2 (bE 0) (bU 0) ++ (cC g bE vE ++ (cT g bU vU ++ (cH g bH vH))))))))))))))))) (w2 := cM g bM vM_192 ++ (cO g bO vO_182 ++ (cF g bF (bD 0) (bS 0) (bH 0 0) (bRF 0) (bRT 0) vF_183 ++ (cS g bS (bC 0) (bT 0) ++ (cC g bC vC ++ (cT g bT vT ++ (cR g bRT nRT (bG 0) (bB 0) vRT_184 ++ (cL g bG vG_185 ++ (cL g bB vB_186 ++ (cR g bRF nRF (bGF 0) (bBF 0) vRF ++ (cL g bGF vGF ++ (cL g bBF vBF ++ (cD g bD (bS2 0) vD ++ (cS g bS2 (bE 0) (bU 0) ++ (cC g bE vE ++ (cT g bU vU ++ (cH g bH vH))))))))))))))))) (kpc (fun P => by simp only [List.countP_append] <;> omega)) (kpc (fun P => by simp only [List.countP_append] <;> omega)) (As := [.int (xs ((x4 + (1 : Int32))).toNatClampNeg), .int (xs ((x4 + (2 : Int32))).toNatClampNeg), .int (xs ((x4 + (3 : Int32))).toNatClampNeg)]) (rest := []) rfl rfl hl.1 (Nat.le_of_ble_eq_true rfl) dL_law_766 (k1 := cells + 1) (n1 := slots + 6) rfl rfl hcr (fun H locs hP hD hS => ?_)
  refine lv_istore (lv' := [(6, .int r191), (5, .int r181), (0, .ref b), (1, .ref (bF 0)), (2, .ref (bM 0)), (3, .ref (bO 1)), (4, .int x4)]) hx hb dL_law_769 hl (by decide) rfl (fun ls hl => ?_)
  refine lv_aload_n hx hb dL_law_771 rfl (lv_at hl 4 rfl) ?_
  obtain ⟨r194, hg195, hf⟩ := o1_at hf
  refine k_viQ ⟨hx, hb, hml, hown, htu⟩ hK hP hD hS hA hG (c_X8_thrown l g bM vM_192 r194 hg195) (cwV 0 htu (gU_V mw_5_143 hcX8_thrown) rfl rfl rfl hdX8_thrown ⟨Nat.le_of_ble_eq_true rfl, Nat.le_of_ble_eq_true rfl⟩) (q0 := 0) (ci := 8) (fs := fcM bM vM_192) (q := (RX8, TX8, 23)) rfl rfl rfl (wr := (cO g bO vO_182 ++ (cF g bF (bD 0) (bS 0) (bH 0 0) (bRF 0) (bRT 0) vF_183 ++ (cS g bS (bC 0) (bT 0) ++ (cC g bC vC ++ (cT g bT vT ++ (cR g bRT nRT (bG 0) (bB 0) vRT_184 ++ (cL g bG vG_185 ++ (cL g bB vB_186 ++ (cR g bRF nRF (bGF 0) (bBF 0) vRF ++ (cL g bGF vGF ++ (cL g bBF vBF ++ (cD g bD (bS2 0) vD ++ (cS g bS2 (bE 0) (bU 0) ++ (cC g bE vE ++ (cT g bU vU ++ (cH g bH vH))))))))))))))))) (w2 := cM g bM vM_192 ++ (cO g bO vO_182 ++ (cF g bF (bD 0) (bS 0) (bH 0 0) (bRF 0) (bRT 0) vF_183 ++ (cS g bS (bC 0) (bT 0) ++ (cC g bC vC ++ (cT g bT vT ++ (cR g bRT nRT (bG 0) (bB 0) vRT_184 ++ (cL g bG vG_185 ++ (cL g bB vB_186 ++ (cR g bRF nRF (bGF 0) (bBF 0) vRF ++ (cL g bGF vGF ++ (cL g bBF vBF ++ (cD g bD (bS2 0) vD ++ (cS g bS2 (bE 0) (bU 0) ++ (cC g bE vE ++ (cT g bU vU ++ (cH g bH vH))))))))))))))))) (kpc (fun P => by simp only [List.countP_append] <;> omega)) (kpc (fun P => by simp only [List.countP_append] <;> omega)) (As := []) (rest := []) rfl rfl hl.1 (Nat.le_of_ble_eq_true rfl) dL_law_772 (k1 := cells + 1) (n1 := slots + 6) rfl rfl hcr (fun H locs hP hD hS => ?_)
  refine lv_iload hx hb dL_law_775 (lv_at hl 1 rfl) ?_
  refine lv_icmp_eq (tgt := 782) hx hb dL_law_777 (by decide) (fun c196 => ?_) (fun c196 => ?_)
  · have hf := it_t hf c196
    refine lv_iload hx hb dL_law_782 (lv_at hl 1 rfl) ?_
    obtain ⟨k197, hk199, hf⟩ := jn_at hf
    have hJ198 : k197 = some () → ∀ (H : Heap) (locs : List Loc), va_P g.1 vwCl (cM g bM vM_192 ++ (cO g bO vO_182 ++ (cF g bF (bD 0) (bS 0) (bH 0 0) (bRF 0) (bRT 0) vF_183 ++ (cS g bS (bC 0) (bT 0) ++ (cC g bC vC ++ (cT g bT vT ++ (cR g bRT nRT (bG 0) (bB 0) vRT_184 ++ (cL g bG vG_185 ++ (cL g bB vB_186 ++ (cR g bRF nRF (bGF 0) (bBF 0) vRF ++ (cL g bGF vGF ++ (cL g bBF vBF ++ (cD g bD (bS2 0) vD ++ (cS g bS2 (bE 0) (bU 0) ++ (cC g bE vE ++ (cT g bU vU ++ (cH g bH vH))))))))))))))))) H → va_D A (cM g bM vM_192 ++ (cO g bO vO_182 ++ (cF g bF (bD 0) (bS 0) (bH 0 0) (bRF 0) (bRT 0) vF_183 ++ (cS g bS (bC 0) (bT 0) ++ (cC g bC vC ++ (cT g bT vT ++ (cR g bRT nRT (bG 0) (bB 0) vRT_184 ++ (cL g bG vG_185 ++ (cL g bB vB_186 ++ (cR g bRF nRF (bGF 0) (bBF 0) vRF ++ (cL g bGF vGF ++ (cL g bBF vBF ++ (cD g bD (bS2 0) vD ++ (cS g bS2 (bE 0) (bU 0) ++ (cC g bE vE ++ (cT g bU vU ++ (cH g bH vH))))))))))))))))) → va_S A s.heap H locs → ∀ ls : Array Slot, lv_has ls 9 [(0, .ref b), (1, .ref (bF 0)), (2, .ref (bM 0)), (3, .ref (bO 1)), (4, .int x4)] → W p l e room_1 s m args below meth c H locs (cells + 1) (slots + 6) Q (F0 m 806 ls []) := by
      intro hf H locs hP hD hS ls hl
      rw [hk199] at hf
      clear hk199
      refine lv_goto (tgt := 1532) hx hb dL_law_806 (by decide) ?_
      refine W.widen (k := cells + 1) (n := slots + 6) (by omega) (by omega) ?_
      exact ih vM_192 vO_182 vF_183 vC vT vRT_184 vG_185 vB_186 vRF vGF vBF vD vE vU vH x4 hf H locs hP hD hS _ (lv_sub hl [0, 1, 2, 3, 4] rfl)
    refine lv_if_ne (tgt := 806) hx hb dL_law_784 (by decide) (fun c200 => ?_) (fun c200 => ?_)
    · have hf := it_f hf c200
      refine W.widen (k := cells + 1) (n := slots + 6) (by omega) (by omega) ?_
      exact hJ198 hf H locs hP hD hS _ (lv_sub hl [2, 3, 4, 5, 6] rfl)
    · have hf := it_t hf c200
      refine lv_aload_n hx hb dL_law_787 rfl (lv_at hl 5 rfl) ?_
      refine lv_iconst (v := (0 : Int32)) hx hb dL_law_788 (by decide) ?_
      obtain ⟨h201, hf⟩ := gd_in hf
      refine va_lald (D := g.1) (f := (vO_182.2.2 0)) hx hb hK hP 14 1 rfl rfl h201 dL_law_789 ?_
      refine lv_iload hx hb dL_law_790 (lv_at hl 0 rfl) ?_
      obtain ⟨k203, hk206, hf⟩ := jn_at hf
      have hJ204 : ∀ (t202 : Int64), k203 t202 = some () → ∀ (H : Heap) (locs : List Loc), va_P g.1 vwCl (cM g bM vM_192 ++ (cO g bO vO_182 ++ (cF g bF (bD 0) (bS 0) (bH 0 0) (bRF 0) (bRT 0) vF_183 ++ (cS g bS (bC 0) (bT 0) ++ (cC g bC vC ++ (cT g bT vT ++ (cR g bRT nRT (bG 0) (bB 0) vRT_184 ++ (cL g bG vG_185 ++ (cL g bB vB_186 ++ (cR g bRF nRF (bGF 0) (bBF 0) vRF ++ (cL g bGF vGF ++ (cL g bBF vBF ++ (cD g bD (bS2 0) vD ++ (cS g bS2 (bE 0) (bU 0) ++ (cC g bE vE ++ (cT g bU vU ++ (cH g bH vH))))))))))))))))) H → va_D A (cM g bM vM_192 ++ (cO g bO vO_182 ++ (cF g bF (bD 0) (bS 0) (bH 0 0) (bRF 0) (bRT 0) vF_183 ++ (cS g bS (bC 0) (bT 0) ++ (cC g bC vC ++ (cT g bT vT ++ (cR g bRT nRT (bG 0) (bB 0) vRT_184 ++ (cL g bG vG_185 ++ (cL g bB vB_186 ++ (cR g bRF nRF (bGF 0) (bBF 0) vRF ++ (cL g bGF vGF ++ (cL g bBF vBF ++ (cD g bD (bS2 0) vD ++ (cS g bS2 (bE 0) (bU 0) ++ (cC g bE vE ++ (cT g bU vU ++ (cH g bH vH))))))))))))))))) → va_S A s.heap H locs → ∀ ls : Array Slot, lv_has ls 9 [(0, .ref b), (1, .ref (bF 0)), (2, .ref (bM 0)), (3, .ref (bO 1)), (4, .int x4)] → W p l e room_1 s m args below meth c H locs (cells + 1) (slots + 6) Q (F0 m 800 ls [.long t202, .long (vO_182.2.2 0 ((0 : Int32)).toNatClampNeg)]) := by
        intro t202 hf H locs hP hD hS ls hl
        rw [hk206] at hf
        dsimp only at hf
        clear hk206
        refine W.lcmp hx hb dL_law_800 ?_
        refine lv_if_eq (tgt := 806) hx hb dL_law_801 (by decide) (fun c205 => ?_) (fun c205 => ?_)
        · have hf := it_t hf c205
          refine W.widen (k := cells + 1) (n := slots + 6) (by omega) (by omega) ?_
          exact hJ198 hf H locs hP hD hS _ (lv_sub hl [0, 1, 2, 3, 4] rfl)
        · have hf := it_f hf c205
          refine lv_iconst (v := (0 : Int32)) hx hb dL_law_804 (by decide) ?_
          cases hf
      refine lv_if_eq (tgt := 799) hx hb dL_law_792 (by decide) (fun c207 => ?_) (fun c207 => ?_)
      · have hf := it_t hf c207
        refine lv_lconst (v := (0 : Int64)) hx hb dL_law_799 (by decide) ?_
        refine W.widen (k := cells + 1) (n := slots + 6) (by omega) (by omega) ?_
        exact hJ204 (0 : Int64) hf H locs hP hD hS _ (lv_sub hl [2, 3, 4, 5, 6] rfl)
      · have hf := it_f hf c207
        refine lv_lconst (v := (1 : Int64)) hx hb dL_law_795 (by decide) ?_
        refine lv_goto (tgt := 800) hx hb dL_law_796 (by decide) ?_
        refine W.widen (k := cells + 1) (n := slots + 6) (by omega) (by omega) ?_
        exact hJ204 (1 : Int64) hf H locs hP hD hS _ (lv_sub hl [2, 3, 4, 5, 6] rfl)
  · have hf := it_f hf c196
    refine lv_iconst (v := (0 : Int32)) hx hb dL_law_780 (by decide) ?_
    cases hf
def f_L_c10 (xs : Nat → Int32) (L : Nat) (nRT nRF : Nat) (self0 : Vs → Vs → Vs → Vs → Vs → Vs → Vs → Vs → Vs → Vs → Vs → Vs → Vs → Vs → Hv → Int32 → Option Unit) (vM : Vs) (vO : Vs) (vF : Vs) (vC : Vs) (vT : Vs) (vRT : Vs) (vG : Vs) (vB : Vs) (vRF : Vs) (vGF : Vs) (vBF : Vs) (vD : Vs) (vE : Vs) (vU : Vs) (vH : Hv) (x4 : Int32) : Option Unit :=
  gd (inb (x4 + (1 : Int32)) L) (o6 (f_L_worth vO vF vC vT nRT vRT vG vB (xs ((x4 + (1 : Int32))).toNatClampNeg)) (fun (r209 : Int32) (vO_210 : Vs) (vF_211 : Vs) (vRT_212 : Vs) (vG_213 : Vs) (vB_214 : Vs) => gd (inb (x4 + (1 : Int32)) L) (o2 (f_X8_worth vM (xs ((x4 + (1 : Int32))).toNatClampNeg)) (fun (r217 : Int32) (vM_218 : Vs) => o1 (f_X8_thrown vM_218) (fun (r220 : Int32) => if r220 = r209 then jn (self0 vM_218 vO_210 vF_211 vC vT vRT_212 vG_213 vB_214 vRF vGF vBF vD vE vU vH x4) (fun k223 => if r209 = 0 then gd (inb (0 : Int32) 1) (if (lg_cmp (vO_210.2.2 0 ((0 : Int32)).toNatClampNeg) ((r217).toInt64)) = 0 then k223 else none) else k223) else none)))))
set_option maxHeartbeats 8000000 in
set_option maxRecDepth 100000 in
theorem law_c10 {p : Program} {e : Env} {s : State} {m : MethodId} {args : Array Value} {below : List Frame} {meth : Method} {c : Code} {Q : State → Prop} (l : Launch) (hst : l.stackTraces = false) (g : Gx) {A : Nat → Prop} {b L : Nat} {xs : Nat → Int32} (hx : p.tables.exec = Jvm.exec) (hb : c.code = cL_law) (hml : c.maxLocals = 9) (hown : s.vm.findClass RL = some m.cls) (htu : ∀ w ∈ UW, w.before args s = true) (hK : va_K g.1 vwCl (tyL g) s) (hG : BG g A s s.heap) (hA : ∀ q, s.heap.size ≤ q → A q) (hX : va_X b L xs s s.heap) (hbl : b < s.heap.size) (hbA : ¬ A b) (bM : Nat → Nat) (bO : Nat → Nat) (bF : Nat → Nat) (bS : Nat → Nat) (bC : Nat → Nat) (bT : Nat → Nat) (bRT : Nat → Nat) (bG : Nat → Nat) (bB : Nat → Nat) (bRF : Nat → Nat) (bGF : Nat → Nat) (bBF : Nat → Nat) (bD : Nat → Nat) (bS2 : Nat → Nat) (bE : Nat → Nat) (bU : Nat → Nat) (bH : Nat → Nat → Nat) (nRT nRF : Nat) (cells slots : Nat) (hcr : cells + 1 ≤ room_1.cells ∧ slots + 6 ≤ room_1.slots) (self0 : Vs → Vs → Vs → Vs → Vs → Vs → Vs → Vs → Vs → Vs → Vs → Vs → Vs → Vs → Hv → Int32 → Option Unit) (ih : ∀ (vM : Vs) (vO : Vs) (vF : Vs) (vC : Vs) (vT : Vs) (vRT : Vs) (vG : Vs) (vB : Vs) (vRF : Vs) (vGF : Vs) (vBF : Vs) (vD : Vs) (vE : Vs) (vU : Vs) (vH : Hv) (x4 : Int32), self0 vM vO vF vC vT vRT vG vB vRF vGF vBF vD vE vU vH x4 = some () → ∀ (H : Heap) (locs : List Loc), va_P g.1 vwCl (cM g bM vM ++ (cO g bO vO ++ (cF g bF (bD 0) (bS 0) (bH 0 0) (bRF 0) (bRT 0) vF ++ (cS g bS (bC 0) (bT 0) ++ (cC g bC vC ++ (cT g bT vT ++ (cR g bRT nRT (bG 0) (bB 0) vRT ++ (cL g bG vG ++ (cL g bB vB ++ (cR g bRF nRF (bGF 0) (bBF 0) vRF ++ (cL g bGF vGF ++ (cL g bBF vBF ++ (cD g bD (bS2 0) vD ++ (cS g bS2 (bE 0) (bU 0) ++ (cC g bE vE ++ (cT g bU vU ++ (cH g bH vH))))))))))))))))) H → va_D A (cM g bM vM ++ (cO g bO vO ++ (cF g bF (bD 0) (bS 0) (bH 0 0) (bRF 0) (bRT 0) vF ++ (cS g bS (bC 0) (bT 0) ++ (cC g bC vC ++ (cT g bT vT ++ (cR g bRT nRT (bG 0) (bB 0) vRT ++ (cL g bG vG ++ (cL g bB vB ++ (cR g bRF nRF (bGF 0) (bBF 0) vRF ++ (cL g bGF vGF ++ (cL g bBF vBF ++ (cD g bD (bS2 0) vD ++ (cS g bS2 (bE 0) (bU 0) ++ (cC g bE vE ++ (cT g bU vU ++ (cH g bH vH))))))))))))))))) → va_S A s.heap H locs → ∀ ls : Array Slot, lv_has ls 9 [(0, .ref b), (1, .ref (bF 0)), (2, .ref (bM 0)), (3, .ref (bO 1)), (4, .int x4)] → W p l e room_1 s m args below meth c H locs (cells + 1) (slots + 6) Q (F0 m 1532 ls [])) (vM : Vs) (vO : Vs) (vF : Vs) (vC : Vs) (vT : Vs) (vRT : Vs) (vG : Vs) (vB : Vs) (vRF : Vs) (vGF : Vs) (vBF : Vs) (vD : Vs) (vE : Vs) (vU : Vs) (vH : Hv) (x4 : Int32) (hf : f_L_c10 xs L nRT nRF self0 vM vO vF vC vT vRT vG vB vRF vGF vBF vD vE vU vH x4 = some ()) (H : Heap) (locs : List Loc) (hP : va_P g.1 vwCl (cM g bM vM ++ (cO g bO vO ++ (cF g bF (bD 0) (bS 0) (bH 0 0) (bRF 0) (bRT 0) vF ++ (cS g bS (bC 0) (bT 0) ++ (cC g bC vC ++ (cT g bT vT ++ (cR g bRT nRT (bG 0) (bB 0) vRT ++ (cL g bG vG ++ (cL g bB vB ++ (cR g bRF nRF (bGF 0) (bBF 0) vRF ++ (cL g bGF vGF ++ (cL g bBF vBF ++ (cD g bD (bS2 0) vD ++ (cS g bS2 (bE 0) (bU 0) ++ (cC g bE vE ++ (cT g bU vU ++ (cH g bH vH))))))))))))))))) H) (hD : va_D A (cM g bM vM ++ (cO g bO vO ++ (cF g bF (bD 0) (bS 0) (bH 0 0) (bRF 0) (bRT 0) vF ++ (cS g bS (bC 0) (bT 0) ++ (cC g bC vC ++ (cT g bT vT ++ (cR g bRT nRT (bG 0) (bB 0) vRT ++ (cL g bG vG ++ (cL g bB vB ++ (cR g bRF nRF (bGF 0) (bBF 0) vRF ++ (cL g bGF vGF ++ (cL g bBF vBF ++ (cD g bD (bS2 0) vD ++ (cS g bS2 (bE 0) (bU 0) ++ (cC g bE vE ++ (cT g bU vU ++ (cH g bH vH)))))))))))))))))) (hS : va_S A s.heap H locs) (ls : Array Slot) (hl : lv_has ls 9 [(0, .ref b), (1, .ref (bF 0)), (2, .ref (bM 0)), (3, .ref (bO 1)), (4, .int x4)]) : W p l e room_1 s m args below meth c H locs cells slots Q (F0 m 809 ls []) := by
  have hc0 : cells ≤ room_1.cells ∧ slots ≤ room_1.slots := ⟨by omega, by omega⟩
  unfold f_L_c10 at hf
  refine lv_aload_n hx hb dL_law_809 rfl (lv_at hl 1 rfl) ?_
  refine lv_aload_n hx hb dL_law_810 rfl (lv_at hl 0 rfl) ?_
  refine lv_iload hx hb dL_law_811 (lv_at hl 4 rfl) ?_
  refine lv_iconst (v := (1 : Int32)) hx hb dL_law_813 (by decide) ?_
  refine lv_iadd hx hb dL_law_814 ?_
  obtain ⟨h208, hf⟩ := gd_in hf
  refine va_sld hx hb hX hbl hbA hS h208 dL_law_815 ?_
  refine lv_aload_n hx hb dL_law_816 rfl (lv_at hl 3 rfl) ?_
  obtain ⟨r209, vO_210, vF_211, vRT_212, vG_213, vB_214, hg215, hf⟩ := o6_at hf
  refine k_siHQ ⟨hx, hb, hml, hown, htu⟩ hK hP hD hS hA hG (h_L_worth l hst g bO vO bF (bD 0) (bH 0 0) (bRF 0) vF bS bC vC bT vT bRT nRT vRT bG vG bB vB (xs ((x4 + (1 : Int32))).toNatClampNeg) r209 vO_210 vF_211 vRT_212 vG_213 vB_214 hg215) (vx_cwSW 3 htu (gU_H mw_4_195 hcL_worth) rfl rfl rfl hdL_worth ⟨Nat.le_of_ble_eq_true rfl, Nat.le_of_ble_eq_true rfl⟩) (wr := (cM g bM vM ++ (cR g bRF nRF (bGF 0) (bBF 0) vRF ++ (cL g bGF vGF ++ (cL g bBF vBF ++ (cD g bD (bS2 0) vD ++ (cS g bS2 (bE 0) (bU 0) ++ (cC g bE vE ++ (cT g bU vU ++ (cH g bH vH)))))))))) (w2 := cM g bM vM ++ (cO g bO vO_210 ++ (cF g bF (bD 0) (bS 0) (bH 0 0) (bRF 0) (bRT 0) vF_211 ++ (cS g bS (bC 0) (bT 0) ++ (cC g bC vC ++ (cT g bT vT ++ (cR g bRT nRT (bG 0) (bB 0) vRT_212 ++ (cL g bG vG_213 ++ (cL g bB vB_214 ++ (cR g bRF nRF (bGF 0) (bBF 0) vRF ++ (cL g bGF vGF ++ (cL g bBF vBF ++ (cD g bD (bS2 0) vD ++ (cS g bS2 (bE 0) (bU 0) ++ (cC g bE vE ++ (cT g bU vU ++ (cH g bH vH))))))))))))))))) (kpc (fun P => by simp only [List.countP_append] <;> omega)) (kpc (fun P => by simp only [List.countP_append] <;> omega)) (As := [.ref (bF 0), .int (xs ((x4 + (1 : Int32))).toNatClampNeg), .ref (bO 1)]) (rest := []) rfl rfl hl.1 (Nat.le_of_ble_eq_true rfl) dL_law_817 (k1 := cells + 1) (n1 := slots + 6) rfl rfl hcr (fun H locs hP hD hS => ?_)
  refine lv_istore (lv' := [(5, .int r209), (0, .ref b), (1, .ref (bF 0)), (2, .ref (bM 0)), (3, .ref (bO 1)), (4, .int x4)]) hx hb dL_law_820 hl (by decide) rfl (fun ls hl => ?_)
  refine lv_aload_n hx hb dL_law_822 rfl (lv_at hl 3 rfl) ?_
  refine lv_aload_n hx hb dL_law_823 rfl (lv_at hl 1 rfl) ?_
  refine lv_iload hx hb dL_law_824 (lv_at hl 5 rfl) ?_
  refine lv_iconst (v := (1 : Int32)) hx hb dL_law_826 (by decide) ?_
  refine lv_iadd hx hb dL_law_827 ?_
  obtain ⟨h216, hf⟩ := gd_in hf
  refine va_sld hx hb hX hbl hbA hS h216 dL_law_828 ?_
  obtain ⟨r217, vM_218, hg219, hf⟩ := o2_at hf
  refine k_viQ ⟨hx, hb, hml, hown, htu⟩ hK hP hD hS hA hG (c_X8_worth l g bM vM (xs ((x4 + (1 : Int32))).toNatClampNeg) r217 vM_218 hg219) (cwV 1 htu (gU_V mw_6_162 hcX8_worth) rfl rfl rfl hdX8_worth ⟨Nat.le_of_ble_eq_true rfl, Nat.le_of_ble_eq_true rfl⟩) (q0 := 0) (ci := 8) (fs := fcM bM vM) (q := (RX8, TX8, 23)) rfl rfl rfl (wr := (cO g bO vO_210 ++ (cF g bF (bD 0) (bS 0) (bH 0 0) (bRF 0) (bRT 0) vF_211 ++ (cS g bS (bC 0) (bT 0) ++ (cC g bC vC ++ (cT g bT vT ++ (cR g bRT nRT (bG 0) (bB 0) vRT_212 ++ (cL g bG vG_213 ++ (cL g bB vB_214 ++ (cR g bRF nRF (bGF 0) (bBF 0) vRF ++ (cL g bGF vGF ++ (cL g bBF vBF ++ (cD g bD (bS2 0) vD ++ (cS g bS2 (bE 0) (bU 0) ++ (cC g bE vE ++ (cT g bU vU ++ (cH g bH vH))))))))))))))))) (w2 := cM g bM vM_218 ++ (cO g bO vO_210 ++ (cF g bF (bD 0) (bS 0) (bH 0 0) (bRF 0) (bRT 0) vF_211 ++ (cS g bS (bC 0) (bT 0) ++ (cC g bC vC ++ (cT g bT vT ++ (cR g bRT nRT (bG 0) (bB 0) vRT_212 ++ (cL g bG vG_213 ++ (cL g bB vB_214 ++ (cR g bRF nRF (bGF 0) (bBF 0) vRF ++ (cL g bGF vGF ++ (cL g bBF vBF ++ (cD g bD (bS2 0) vD ++ (cS g bS2 (bE 0) (bU 0) ++ (cC g bE vE ++ (cT g bU vU ++ (cH g bH vH))))))))))))))))) (kpc (fun P => by simp only [List.countP_append] <;> omega)) (kpc (fun P => by simp only [List.countP_append] <;> omega)) (As := [.int (xs ((x4 + (1 : Int32))).toNatClampNeg)]) (rest := []) rfl rfl hl.1 (Nat.le_of_ble_eq_true rfl) dL_law_829 (k1 := cells + 1) (n1 := slots + 6) rfl rfl hcr (fun H locs hP hD hS => ?_)
  refine lv_istore (lv' := [(6, .int r217), (5, .int r209), (0, .ref b), (1, .ref (bF 0)), (2, .ref (bM 0)), (3, .ref (bO 1)), (4, .int x4)]) hx hb dL_law_832 hl (by decide) rfl (fun ls hl => ?_)
  refine lv_aload_n hx hb dL_law_834 rfl (lv_at hl 4 rfl) ?_
  obtain ⟨r220, hg221, hf⟩ := o1_at hf
  refine k_viQ ⟨hx, hb, hml, hown, htu⟩ hK hP hD hS hA hG (c_X8_thrown l g bM vM_218 r220 hg221) (cwV 0 htu (gU_V mw_5_143 hcX8_thrown) rfl rfl rfl hdX8_thrown ⟨Nat.le_of_ble_eq_true rfl, Nat.le_of_ble_eq_true rfl⟩) (q0 := 0) (ci := 8) (fs := fcM bM vM_218) (q := (RX8, TX8, 23)) rfl rfl rfl (wr := (cO g bO vO_210 ++ (cF g bF (bD 0) (bS 0) (bH 0 0) (bRF 0) (bRT 0) vF_211 ++ (cS g bS (bC 0) (bT 0) ++ (cC g bC vC ++ (cT g bT vT ++ (cR g bRT nRT (bG 0) (bB 0) vRT_212 ++ (cL g bG vG_213 ++ (cL g bB vB_214 ++ (cR g bRF nRF (bGF 0) (bBF 0) vRF ++ (cL g bGF vGF ++ (cL g bBF vBF ++ (cD g bD (bS2 0) vD ++ (cS g bS2 (bE 0) (bU 0) ++ (cC g bE vE ++ (cT g bU vU ++ (cH g bH vH))))))))))))))))) (w2 := cM g bM vM_218 ++ (cO g bO vO_210 ++ (cF g bF (bD 0) (bS 0) (bH 0 0) (bRF 0) (bRT 0) vF_211 ++ (cS g bS (bC 0) (bT 0) ++ (cC g bC vC ++ (cT g bT vT ++ (cR g bRT nRT (bG 0) (bB 0) vRT_212 ++ (cL g bG vG_213 ++ (cL g bB vB_214 ++ (cR g bRF nRF (bGF 0) (bBF 0) vRF ++ (cL g bGF vGF ++ (cL g bBF vBF ++ (cD g bD (bS2 0) vD ++ (cS g bS2 (bE 0) (bU 0) ++ (cC g bE vE ++ (cT g bU vU ++ (cH g bH vH))))))))))))))))) (kpc (fun P => by simp only [List.countP_append] <;> omega)) (kpc (fun P => by simp only [List.countP_append] <;> omega)) (As := []) (rest := []) rfl rfl hl.1 (Nat.le_of_ble_eq_true rfl) dL_law_835 (k1 := cells + 1) (n1 := slots + 6) rfl rfl hcr (fun H locs hP hD hS => ?_)
  refine lv_iload hx hb dL_law_838 (lv_at hl 1 rfl) ?_
  refine lv_icmp_eq (tgt := 845) hx hb dL_law_840 (by decide) (fun c222 => ?_) (fun c222 => ?_)
  · have hf := it_t hf c222
    refine lv_iload hx hb dL_law_845 (lv_at hl 1 rfl) ?_
    obtain ⟨k223, hk225, hf⟩ := jn_at hf
    have hJ224 : k223 = some () → ∀ (H : Heap) (locs : List Loc), va_P g.1 vwCl (cM g bM vM_218 ++ (cO g bO vO_210 ++ (cF g bF (bD 0) (bS 0) (bH 0 0) (bRF 0) (bRT 0) vF_211 ++ (cS g bS (bC 0) (bT 0) ++ (cC g bC vC ++ (cT g bT vT ++ (cR g bRT nRT (bG 0) (bB 0) vRT_212 ++ (cL g bG vG_213 ++ (cL g bB vB_214 ++ (cR g bRF nRF (bGF 0) (bBF 0) vRF ++ (cL g bGF vGF ++ (cL g bBF vBF ++ (cD g bD (bS2 0) vD ++ (cS g bS2 (bE 0) (bU 0) ++ (cC g bE vE ++ (cT g bU vU ++ (cH g bH vH))))))))))))))))) H → va_D A (cM g bM vM_218 ++ (cO g bO vO_210 ++ (cF g bF (bD 0) (bS 0) (bH 0 0) (bRF 0) (bRT 0) vF_211 ++ (cS g bS (bC 0) (bT 0) ++ (cC g bC vC ++ (cT g bT vT ++ (cR g bRT nRT (bG 0) (bB 0) vRT_212 ++ (cL g bG vG_213 ++ (cL g bB vB_214 ++ (cR g bRF nRF (bGF 0) (bBF 0) vRF ++ (cL g bGF vGF ++ (cL g bBF vBF ++ (cD g bD (bS2 0) vD ++ (cS g bS2 (bE 0) (bU 0) ++ (cC g bE vE ++ (cT g bU vU ++ (cH g bH vH))))))))))))))))) → va_S A s.heap H locs → ∀ ls : Array Slot, lv_has ls 9 [(0, .ref b), (1, .ref (bF 0)), (2, .ref (bM 0)), (3, .ref (bO 1)), (4, .int x4)] → W p l e room_1 s m args below meth c H locs (cells + 1) (slots + 6) Q (F0 m 862 ls []) := by
      intro hf H locs hP hD hS ls hl
      rw [hk225] at hf
      clear hk225
      refine lv_goto (tgt := 1532) hx hb dL_law_862 (by decide) ?_
      refine W.widen (k := cells + 1) (n := slots + 6) (by omega) (by omega) ?_
      exact ih vM_218 vO_210 vF_211 vC vT vRT_212 vG_213 vB_214 vRF vGF vBF vD vE vU vH x4 hf H locs hP hD hS _ (lv_sub hl [0, 1, 2, 3, 4] rfl)
    refine lv_if_ne (tgt := 862) hx hb dL_law_847 (by decide) (fun c226 => ?_) (fun c226 => ?_)
    · have hf := it_f hf c226
      refine W.widen (k := cells + 1) (n := slots + 6) (by omega) (by omega) ?_
      exact hJ224 hf H locs hP hD hS _ (lv_sub hl [2, 3, 4, 5, 6] rfl)
    · have hf := it_t hf c226
      refine lv_aload_n hx hb dL_law_850 rfl (lv_at hl 5 rfl) ?_
      refine lv_iconst (v := (0 : Int32)) hx hb dL_law_851 (by decide) ?_
      obtain ⟨h227, hf⟩ := gd_in hf
      refine va_lald (D := g.1) (f := (vO_210.2.2 0)) hx hb hK hP 14 1 rfl rfl h227 dL_law_852 ?_
      refine lv_iload hx hb dL_law_853 (lv_at hl 0 rfl) ?_
      refine lv_i2l (v := (r217).toInt64) hx hb dL_law_855 rfl ?_
      refine W.lcmp hx hb dL_law_856 ?_
      refine lv_if_eq (tgt := 862) hx hb dL_law_857 (by decide) (fun c228 => ?_) (fun c228 => ?_)
      · have hf := it_t hf c228
        refine W.widen (k := cells + 1) (n := slots + 6) (by omega) (by omega) ?_
        exact hJ224 hf H locs hP hD hS _ (lv_sub hl [2, 3, 4, 5, 6] rfl)
      · have hf := it_f hf c228
        refine lv_iconst (v := (0 : Int32)) hx hb dL_law_860 (by decide) ?_
        cases hf
  · have hf := it_f hf c222
    refine lv_iconst (v := (0 : Int32)) hx hb dL_law_843 (by decide) ?_
    cases hf
def f_L_c11 (xs : Nat → Int32) (L : Nat) (nRT nRF : Nat) (self0 : Vs → Vs → Vs → Vs → Vs → Vs → Vs → Vs → Vs → Vs → Vs → Vs → Vs → Vs → Hv → Int32 → Option Unit) (vM : Vs) (vO : Vs) (vF : Vs) (vC : Vs) (vT : Vs) (vRT : Vs) (vG : Vs) (vB : Vs) (vRF : Vs) (vGF : Vs) (vBF : Vs) (vD : Vs) (vE : Vs) (vU : Vs) (vH : Hv) (x4 : Int32) : Option Unit :=
  gd (inb (x4 + (1 : Int32)) L) (o6 (f_L_testFor vO vF vC nRF vRF vGF vBF (xs ((x4 + (1 : Int32))).toNatClampNeg)) (fun (r230 : Int32) (vO_231 : Vs) (vF_232 : Vs) (vRF_233 : Vs) (vGF_234 : Vs) (vBF_235 : Vs) => gd (inb (x4 + (1 : Int32)) L) (o2 (f_X8_testFor vM (xs ((x4 + (1 : Int32))).toNatClampNeg)) (fun (r238 : Int32) (vM_239 : Vs) => o1 (f_X8_thrown vM_239) (fun (r241 : Int32) => if r241 = r230 then jn (self0 vM_239 vO_231 vF_232 vC vT vRT vG vB vRF_233 vGF_234 vBF_235 vD vE vU vH x4) (fun k244 => if r230 = 0 then gd (inb (0 : Int32) 1) (if (lg_cmp (vO_231.2.2 0 ((0 : Int32)).toNatClampNeg) ((r238).toInt64)) = 0 then k244 else none) else k244) else none)))))
set_option maxHeartbeats 8000000 in
set_option maxRecDepth 100000 in
theorem law_c11 {p : Program} {e : Env} {s : State} {m : MethodId} {args : Array Value} {below : List Frame} {meth : Method} {c : Code} {Q : State → Prop} (l : Launch) (hst : l.stackTraces = false) (g : Gx) {A : Nat → Prop} {b L : Nat} {xs : Nat → Int32} (hx : p.tables.exec = Jvm.exec) (hb : c.code = cL_law) (hml : c.maxLocals = 9) (hown : s.vm.findClass RL = some m.cls) (htu : ∀ w ∈ UW, w.before args s = true) (hK : va_K g.1 vwCl (tyL g) s) (hG : BG g A s s.heap) (hA : ∀ q, s.heap.size ≤ q → A q) (hX : va_X b L xs s s.heap) (hbl : b < s.heap.size) (hbA : ¬ A b) (bM : Nat → Nat) (bO : Nat → Nat) (bF : Nat → Nat) (bS : Nat → Nat) (bC : Nat → Nat) (bT : Nat → Nat) (bRT : Nat → Nat) (bG : Nat → Nat) (bB : Nat → Nat) (bRF : Nat → Nat) (bGF : Nat → Nat) (bBF : Nat → Nat) (bD : Nat → Nat) (bS2 : Nat → Nat) (bE : Nat → Nat) (bU : Nat → Nat) (bH : Nat → Nat → Nat) (nRT nRF : Nat) (cells slots : Nat) (hcr : cells + 1 ≤ room_1.cells ∧ slots + 6 ≤ room_1.slots) (self0 : Vs → Vs → Vs → Vs → Vs → Vs → Vs → Vs → Vs → Vs → Vs → Vs → Vs → Vs → Hv → Int32 → Option Unit) (ih : ∀ (vM : Vs) (vO : Vs) (vF : Vs) (vC : Vs) (vT : Vs) (vRT : Vs) (vG : Vs) (vB : Vs) (vRF : Vs) (vGF : Vs) (vBF : Vs) (vD : Vs) (vE : Vs) (vU : Vs) (vH : Hv) (x4 : Int32), self0 vM vO vF vC vT vRT vG vB vRF vGF vBF vD vE vU vH x4 = some () → ∀ (H : Heap) (locs : List Loc), va_P g.1 vwCl (cM g bM vM ++ (cO g bO vO ++ (cF g bF (bD 0) (bS 0) (bH 0 0) (bRF 0) (bRT 0) vF ++ (cS g bS (bC 0) (bT 0) ++ (cC g bC vC ++ (cT g bT vT ++ (cR g bRT nRT (bG 0) (bB 0) vRT ++ (cL g bG vG ++ (cL g bB vB ++ (cR g bRF nRF (bGF 0) (bBF 0) vRF ++ (cL g bGF vGF ++ (cL g bBF vBF ++ (cD g bD (bS2 0) vD ++ (cS g bS2 (bE 0) (bU 0) ++ (cC g bE vE ++ (cT g bU vU ++ (cH g bH vH))))))))))))))))) H → va_D A (cM g bM vM ++ (cO g bO vO ++ (cF g bF (bD 0) (bS 0) (bH 0 0) (bRF 0) (bRT 0) vF ++ (cS g bS (bC 0) (bT 0) ++ (cC g bC vC ++ (cT g bT vT ++ (cR g bRT nRT (bG 0) (bB 0) vRT ++ (cL g bG vG ++ (cL g bB vB ++ (cR g bRF nRF (bGF 0) (bBF 0) vRF ++ (cL g bGF vGF ++ (cL g bBF vBF ++ (cD g bD (bS2 0) vD ++ (cS g bS2 (bE 0) (bU 0) ++ (cC g bE vE ++ (cT g bU vU ++ (cH g bH vH))))))))))))))))) → va_S A s.heap H locs → ∀ ls : Array Slot, lv_has ls 9 [(0, .ref b), (1, .ref (bF 0)), (2, .ref (bM 0)), (3, .ref (bO 1)), (4, .int x4)] → W p l e room_1 s m args below meth c H locs (cells + 1) (slots + 6) Q (F0 m 1532 ls [])) (vM : Vs) (vO : Vs) (vF : Vs) (vC : Vs) (vT : Vs) (vRT : Vs) (vG : Vs) (vB : Vs) (vRF : Vs) (vGF : Vs) (vBF : Vs) (vD : Vs) (vE : Vs) (vU : Vs) (vH : Hv) (x4 : Int32) (hf : f_L_c11 xs L nRT nRF self0 vM vO vF vC vT vRT vG vB vRF vGF vBF vD vE vU vH x4 = some ()) (H : Heap) (locs : List Loc) (hP : va_P g.1 vwCl (cM g bM vM ++ (cO g bO vO ++ (cF g bF (bD 0) (bS 0) (bH 0 0) (bRF 0) (bRT 0) vF ++ (cS g bS (bC 0) (bT 0) ++ (cC g bC vC ++ (cT g bT vT ++ (cR g bRT nRT (bG 0) (bB 0) vRT ++ (cL g bG vG ++ (cL g bB vB ++ (cR g bRF nRF (bGF 0) (bBF 0) vRF ++ (cL g bGF vGF ++ (cL g bBF vBF ++ (cD g bD (bS2 0) vD ++ (cS g bS2 (bE 0) (bU 0) ++ (cC g bE vE ++ (cT g bU vU ++ (cH g bH vH))))))))))))))))) H) (hD : va_D A (cM g bM vM ++ (cO g bO vO ++ (cF g bF (bD 0) (bS 0) (bH 0 0) (bRF 0) (bRT 0) vF ++ (cS g bS (bC 0) (bT 0) ++ (cC g bC vC ++ (cT g bT vT ++ (cR g bRT nRT (bG 0) (bB 0) vRT ++ (cL g bG vG ++ (cL g bB vB ++ (cR g bRF nRF (bGF 0) (bBF 0) vRF ++ (cL g bGF vGF ++ (cL g bBF vBF ++ (cD g bD (bS2 0) vD ++ (cS g bS2 (bE 0) (bU 0) ++ (cC g bE vE ++ (cT g bU vU ++ (cH g bH vH)))))))))))))))))) (hS : va_S A s.heap H locs) (ls : Array Slot) (hl : lv_has ls 9 [(0, .ref b), (1, .ref (bF 0)), (2, .ref (bM 0)), (3, .ref (bO 1)), (4, .int x4)]) : W p l e room_1 s m args below meth c H locs cells slots Q (F0 m 865 ls []) := by
  have hc0 : cells ≤ room_1.cells ∧ slots ≤ room_1.slots := ⟨by omega, by omega⟩
  unfold f_L_c11 at hf
  refine lv_aload_n hx hb dL_law_865 rfl (lv_at hl 1 rfl) ?_
  refine lv_aload_n hx hb dL_law_866 rfl (lv_at hl 0 rfl) ?_
  refine lv_iload hx hb dL_law_867 (lv_at hl 4 rfl) ?_
  refine lv_iconst (v := (1 : Int32)) hx hb dL_law_869 (by decide) ?_
  refine lv_iadd hx hb dL_law_870 ?_
  obtain ⟨h229, hf⟩ := gd_in hf
  refine va_sld hx hb hX hbl hbA hS h229 dL_law_871 ?_
  refine lv_aload_n hx hb dL_law_872 rfl (lv_at hl 3 rfl) ?_
  obtain ⟨r230, vO_231, vF_232, vRF_233, vGF_234, vBF_235, hg236, hf⟩ := o6_at hf
  refine k_siHQ ⟨hx, hb, hml, hown, htu⟩ hK hP hD hS hA hG (h_L_testFor l hst g bO vO bF (bD 0) (bH 0 0) (bRT 0) vF bS (bT 0) bC vC bRF nRF vRF bGF vGF bBF vBF (xs ((x4 + (1 : Int32))).toNatClampNeg) r230 vO_231 vF_232 vRF_233 vGF_234 vBF_235 hg236) (vx_cwSW 3 htu (gU_H mw_4_202 hcL_testFor) rfl rfl rfl hdL_testFor ⟨Nat.le_of_ble_eq_true rfl, Nat.le_of_ble_eq_true rfl⟩) (wr := (cM g bM vM ++ (cT g bT vT ++ (cR g bRT nRT (bG 0) (bB 0) vRT ++ (cL g bG vG ++ (cL g bB vB ++ (cD g bD (bS2 0) vD ++ (cS g bS2 (bE 0) (bU 0) ++ (cC g bE vE ++ (cT g bU vU ++ (cH g bH vH))))))))))) (w2 := cM g bM vM ++ (cO g bO vO_231 ++ (cF g bF (bD 0) (bS 0) (bH 0 0) (bRF 0) (bRT 0) vF_232 ++ (cS g bS (bC 0) (bT 0) ++ (cC g bC vC ++ (cT g bT vT ++ (cR g bRT nRT (bG 0) (bB 0) vRT ++ (cL g bG vG ++ (cL g bB vB ++ (cR g bRF nRF (bGF 0) (bBF 0) vRF_233 ++ (cL g bGF vGF_234 ++ (cL g bBF vBF_235 ++ (cD g bD (bS2 0) vD ++ (cS g bS2 (bE 0) (bU 0) ++ (cC g bE vE ++ (cT g bU vU ++ (cH g bH vH))))))))))))))))) (kpc (fun P => by simp only [List.countP_append] <;> omega)) (kpc (fun P => by simp only [List.countP_append] <;> omega)) (As := [.ref (bF 0), .int (xs ((x4 + (1 : Int32))).toNatClampNeg), .ref (bO 1)]) (rest := []) rfl rfl hl.1 (Nat.le_of_ble_eq_true rfl) dL_law_873 (k1 := cells + 1) (n1 := slots + 6) rfl rfl hcr (fun H locs hP hD hS => ?_)
  refine lv_istore (lv' := [(5, .int r230), (0, .ref b), (1, .ref (bF 0)), (2, .ref (bM 0)), (3, .ref (bO 1)), (4, .int x4)]) hx hb dL_law_876 hl (by decide) rfl (fun ls hl => ?_)
  refine lv_aload_n hx hb dL_law_878 rfl (lv_at hl 3 rfl) ?_
  refine lv_aload_n hx hb dL_law_879 rfl (lv_at hl 1 rfl) ?_
  refine lv_iload hx hb dL_law_880 (lv_at hl 5 rfl) ?_
  refine lv_iconst (v := (1 : Int32)) hx hb dL_law_882 (by decide) ?_
  refine lv_iadd hx hb dL_law_883 ?_
  obtain ⟨h237, hf⟩ := gd_in hf
  refine va_sld hx hb hX hbl hbA hS h237 dL_law_884 ?_
  obtain ⟨r238, vM_239, hg240, hf⟩ := o2_at hf
  refine k_viQ ⟨hx, hb, hml, hown, htu⟩ hK hP hD hS hA hG (c_X8_testFor l g bM vM (xs ((x4 + (1 : Int32))).toNatClampNeg) r238 vM_239 hg240) (cwV 1 htu (gU_V mw_6_170 hcX8_testFor) rfl rfl rfl hdX8_testFor ⟨Nat.le_of_ble_eq_true rfl, Nat.le_of_ble_eq_true rfl⟩) (q0 := 0) (ci := 8) (fs := fcM bM vM) (q := (RX8, TX8, 23)) rfl rfl rfl (wr := (cO g bO vO_231 ++ (cF g bF (bD 0) (bS 0) (bH 0 0) (bRF 0) (bRT 0) vF_232 ++ (cS g bS (bC 0) (bT 0) ++ (cC g bC vC ++ (cT g bT vT ++ (cR g bRT nRT (bG 0) (bB 0) vRT ++ (cL g bG vG ++ (cL g bB vB ++ (cR g bRF nRF (bGF 0) (bBF 0) vRF_233 ++ (cL g bGF vGF_234 ++ (cL g bBF vBF_235 ++ (cD g bD (bS2 0) vD ++ (cS g bS2 (bE 0) (bU 0) ++ (cC g bE vE ++ (cT g bU vU ++ (cH g bH vH))))))))))))))))) (w2 := cM g bM vM_239 ++ (cO g bO vO_231 ++ (cF g bF (bD 0) (bS 0) (bH 0 0) (bRF 0) (bRT 0) vF_232 ++ (cS g bS (bC 0) (bT 0) ++ (cC g bC vC ++ (cT g bT vT ++ (cR g bRT nRT (bG 0) (bB 0) vRT ++ (cL g bG vG ++ (cL g bB vB ++ (cR g bRF nRF (bGF 0) (bBF 0) vRF_233 ++ (cL g bGF vGF_234 ++ (cL g bBF vBF_235 ++ (cD g bD (bS2 0) vD ++ (cS g bS2 (bE 0) (bU 0) ++ (cC g bE vE ++ (cT g bU vU ++ (cH g bH vH))))))))))))))))) (kpc (fun P => by simp only [List.countP_append] <;> omega)) (kpc (fun P => by simp only [List.countP_append] <;> omega)) (As := [.int (xs ((x4 + (1 : Int32))).toNatClampNeg)]) (rest := []) rfl rfl hl.1 (Nat.le_of_ble_eq_true rfl) dL_law_885 (k1 := cells + 1) (n1 := slots + 6) rfl rfl hcr (fun H locs hP hD hS => ?_)
  refine lv_istore (lv' := [(6, .int r238), (5, .int r230), (0, .ref b), (1, .ref (bF 0)), (2, .ref (bM 0)), (3, .ref (bO 1)), (4, .int x4)]) hx hb dL_law_888 hl (by decide) rfl (fun ls hl => ?_)
  refine lv_aload_n hx hb dL_law_890 rfl (lv_at hl 4 rfl) ?_
  obtain ⟨r241, hg242, hf⟩ := o1_at hf
  refine k_viQ ⟨hx, hb, hml, hown, htu⟩ hK hP hD hS hA hG (c_X8_thrown l g bM vM_239 r241 hg242) (cwV 0 htu (gU_V mw_5_143 hcX8_thrown) rfl rfl rfl hdX8_thrown ⟨Nat.le_of_ble_eq_true rfl, Nat.le_of_ble_eq_true rfl⟩) (q0 := 0) (ci := 8) (fs := fcM bM vM_239) (q := (RX8, TX8, 23)) rfl rfl rfl (wr := (cO g bO vO_231 ++ (cF g bF (bD 0) (bS 0) (bH 0 0) (bRF 0) (bRT 0) vF_232 ++ (cS g bS (bC 0) (bT 0) ++ (cC g bC vC ++ (cT g bT vT ++ (cR g bRT nRT (bG 0) (bB 0) vRT ++ (cL g bG vG ++ (cL g bB vB ++ (cR g bRF nRF (bGF 0) (bBF 0) vRF_233 ++ (cL g bGF vGF_234 ++ (cL g bBF vBF_235 ++ (cD g bD (bS2 0) vD ++ (cS g bS2 (bE 0) (bU 0) ++ (cC g bE vE ++ (cT g bU vU ++ (cH g bH vH))))))))))))))))) (w2 := cM g bM vM_239 ++ (cO g bO vO_231 ++ (cF g bF (bD 0) (bS 0) (bH 0 0) (bRF 0) (bRT 0) vF_232 ++ (cS g bS (bC 0) (bT 0) ++ (cC g bC vC ++ (cT g bT vT ++ (cR g bRT nRT (bG 0) (bB 0) vRT ++ (cL g bG vG ++ (cL g bB vB ++ (cR g bRF nRF (bGF 0) (bBF 0) vRF_233 ++ (cL g bGF vGF_234 ++ (cL g bBF vBF_235 ++ (cD g bD (bS2 0) vD ++ (cS g bS2 (bE 0) (bU 0) ++ (cC g bE vE ++ (cT g bU vU ++ (cH g bH vH))))))))))))))))) (kpc (fun P => by simp only [List.countP_append] <;> omega)) (kpc (fun P => by simp only [List.countP_append] <;> omega)) (As := []) (rest := []) rfl rfl hl.1 (Nat.le_of_ble_eq_true rfl) dL_law_891 (k1 := cells + 1) (n1 := slots + 6) rfl rfl hcr (fun H locs hP hD hS => ?_)
  refine lv_iload hx hb dL_law_894 (lv_at hl 1 rfl) ?_
  refine lv_icmp_eq (tgt := 901) hx hb dL_law_896 (by decide) (fun c243 => ?_) (fun c243 => ?_)
  · have hf := it_t hf c243
    refine lv_iload hx hb dL_law_901 (lv_at hl 1 rfl) ?_
    obtain ⟨k244, hk246, hf⟩ := jn_at hf
    have hJ245 : k244 = some () → ∀ (H : Heap) (locs : List Loc), va_P g.1 vwCl (cM g bM vM_239 ++ (cO g bO vO_231 ++ (cF g bF (bD 0) (bS 0) (bH 0 0) (bRF 0) (bRT 0) vF_232 ++ (cS g bS (bC 0) (bT 0) ++ (cC g bC vC ++ (cT g bT vT ++ (cR g bRT nRT (bG 0) (bB 0) vRT ++ (cL g bG vG ++ (cL g bB vB ++ (cR g bRF nRF (bGF 0) (bBF 0) vRF_233 ++ (cL g bGF vGF_234 ++ (cL g bBF vBF_235 ++ (cD g bD (bS2 0) vD ++ (cS g bS2 (bE 0) (bU 0) ++ (cC g bE vE ++ (cT g bU vU ++ (cH g bH vH))))))))))))))))) H → va_D A (cM g bM vM_239 ++ (cO g bO vO_231 ++ (cF g bF (bD 0) (bS 0) (bH 0 0) (bRF 0) (bRT 0) vF_232 ++ (cS g bS (bC 0) (bT 0) ++ (cC g bC vC ++ (cT g bT vT ++ (cR g bRT nRT (bG 0) (bB 0) vRT ++ (cL g bG vG ++ (cL g bB vB ++ (cR g bRF nRF (bGF 0) (bBF 0) vRF_233 ++ (cL g bGF vGF_234 ++ (cL g bBF vBF_235 ++ (cD g bD (bS2 0) vD ++ (cS g bS2 (bE 0) (bU 0) ++ (cC g bE vE ++ (cT g bU vU ++ (cH g bH vH))))))))))))))))) → va_S A s.heap H locs → ∀ ls : Array Slot, lv_has ls 9 [(0, .ref b), (1, .ref (bF 0)), (2, .ref (bM 0)), (3, .ref (bO 1)), (4, .int x4)] → W p l e room_1 s m args below meth c H locs (cells + 1) (slots + 6) Q (F0 m 918 ls []) := by
      intro hf H locs hP hD hS ls hl
      rw [hk246] at hf
      clear hk246
      refine lv_goto (tgt := 1532) hx hb dL_law_918 (by decide) ?_
      refine W.widen (k := cells + 1) (n := slots + 6) (by omega) (by omega) ?_
      exact ih vM_239 vO_231 vF_232 vC vT vRT vG vB vRF_233 vGF_234 vBF_235 vD vE vU vH x4 hf H locs hP hD hS _ (lv_sub hl [0, 1, 2, 3, 4] rfl)
    refine lv_if_ne (tgt := 918) hx hb dL_law_903 (by decide) (fun c247 => ?_) (fun c247 => ?_)
    · have hf := it_f hf c247
      refine W.widen (k := cells + 1) (n := slots + 6) (by omega) (by omega) ?_
      exact hJ245 hf H locs hP hD hS _ (lv_sub hl [2, 3, 4, 5, 6] rfl)
    · have hf := it_t hf c247
      refine lv_aload_n hx hb dL_law_906 rfl (lv_at hl 5 rfl) ?_
      refine lv_iconst (v := (0 : Int32)) hx hb dL_law_907 (by decide) ?_
      obtain ⟨h248, hf⟩ := gd_in hf
      refine va_lald (D := g.1) (f := (vO_231.2.2 0)) hx hb hK hP 14 1 rfl rfl h248 dL_law_908 ?_
      refine lv_iload hx hb dL_law_909 (lv_at hl 0 rfl) ?_
      refine lv_i2l (v := (r238).toInt64) hx hb dL_law_911 rfl ?_
      refine W.lcmp hx hb dL_law_912 ?_
      refine lv_if_eq (tgt := 918) hx hb dL_law_913 (by decide) (fun c249 => ?_) (fun c249 => ?_)
      · have hf := it_t hf c249
        refine W.widen (k := cells + 1) (n := slots + 6) (by omega) (by omega) ?_
        exact hJ245 hf H locs hP hD hS _ (lv_sub hl [2, 3, 4, 5, 6] rfl)
      · have hf := it_f hf c249
        refine lv_iconst (v := (0 : Int32)) hx hb dL_law_916 (by decide) ?_
        cases hf
  · have hf := it_f hf c243
    refine lv_iconst (v := (0 : Int32)) hx hb dL_law_899 (by decide) ?_
    cases hf
