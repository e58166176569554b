def f_X7_faulty (vF : Vs) (vC : Vs) (vT : Vs) (nRT : Nat) (vRT : Vs) (vG : Vs) (vB : Vs) (x1 : Int32) (x2 : Int32) (x3 : Int32) : Option (Nat × Int32 × Vs × Vs × Vs × Vs) :=
  o1 (f_X7_checkTest vF vT x1) (fun (c1 : Nat) => if c1 = 0 then (o1 (f_X7_checkFault vF vC x2) (fun (c3 : Nat) => if c3 = 0 then (o1 (f_X7_checkWire vF vC x3) (fun (c5 : Nat) => if c5 = 0 then (o4 (f_X7_refreshTestRows vF vC vT nRT vRT vG vB) (fun (vF_7 : Vs) (vRT_8 : Vs) (vG_9 : Vs) (vB_10 : Vs) => o1 (f_X2_runFault vB_10 vC vG_9 x2) (fun (vB_12 : Vs) => o1 (f_X2_lane vB_12 x3 x1) (fun (r14 : Int32) => some (0, r14, vF_7, vRT_8, vG_9, vB_12))))) else some (c5, (0 : Int32), vF, vRT, vG, vB))) else some (c3, (0 : Int32), vF, vRT, vG, vB))) else some (c1, (0 : Int32), vF, vRT, vG, vB))
abbrev wsX7_faulty : List Cond := .code yX7_faulty cX7_faulty 4 (some .int) :: UW
abbrev rmX7_faulty : Room := { frames := 4, cells := 0, slots := 0, locals := 104 }
set_option maxHeartbeats 4000000 in
set_option maxRecDepth 100000 in
theorem c_X7_faulty (l : Launch) (g : Gx) (bF : Nat → Nat) (qF0 : Nat) (qF2 : Nat) (qF3 : Nat) (vF : Vs) (bS : Nat → Nat) (bC : Nat → Nat) (vC : Vs) (bT : Nat → Nat) (vT : Vs) (bRT : Nat → Nat) (nRT : Nat) (vRT : Vs) (bG : Nat → Nat) (vG : Vs) (bB : Nat → Nat) (vB : Vs) (x1 : Int32) (x2 : Int32) (x3 : Int32) (r : Int32) (vF1 : Vs) (vRT1 : Vs) (vG1 : Vs) (vB1 : Vs) (hf : f_X7_faulty vF vC vT nRT vRT vG vB x1 x2 x3 = some (0, r, vF1, vRT1, vG1, vB1)) : CtI l yX7_faulty wsX7_faulty rmX7_faulty g [.ref (bF 0), .int x1, .int x2, .int x3] (cF g bF qF0 (bS 0) qF2 qF3 (bRT 0) vF ++ (cS g bS (bC 0) (bT 0) ++ (cC g bC vC ++ (cT g bT vT ++ (cR g bRT nRT (bG 0) (bB 0) vRT ++ (cL g bG vG ++ (cL g bB vB))))))) (cF g bF qF0 (bS 0) qF2 qF3 (bRT 0) vF1 ++ (cS g bS (bC 0) (bT 0) ++ (cC g bC vC ++ (cT g bT vT ++ (cR g bRT nRT (bG 0) (bB 0) vRT1 ++ (cL g bG vG1 ++ (cL g bB vB1))))))) r 0 0 := by
  unfold CtI
  intro sz
  refine Met.ofW (cc := cX7_faulty) (maxL := 4) (ret := (some .int)) (by decide) rfl ?_
  intro p e s m args below meth c s₁ B hml hv
  obtain ⟨rfl, hsz, hP, hK, hD0, hG⟩ := hv
  have hx := B.exec
  have hb := B.bytes
  have hr := B.returns
  have hts := atoms_spec (ws := wsX7_faulty) B.pre
  have hown : s.vm.findClass RX7 = some m.cls := findClass_of_methodNamed B.named
  have hlocks := B.notSynchronized
  subst hsz
  have hD := hD0.self (sz := s.heap.size)
  generalize hAe : va_A (cF g bF qF0 (bS 0) qF2 qF3 (bRT 0) vF ++ (cS g bS (bC 0) (bT 0) ++ (cC g bC vC ++ (cT g bT vT ++ (cR g bRT nRT (bG 0) (bB 0) vRT ++ (cL g bG vG ++ (cL g bB vB))))))) s.heap.size = A at hD hG ⊢
  have hA : ∀ q : Nat, s.heap.size ≤ q → A q := fun q h => by rw [← hAe]; exact Or.inr h
  clear hAe hD0
  have hS : va_S A s.heap s.heap [] := va_S.rf
  have hl := lv_entry ([.ref (bF 0), .int x1, .int x2, .int x3]) (n := 4) (Nat.le_of_ble_eq_true rfl)
  rw [lg_entry_eq]
  generalize (lg_sl ([.ref (bF 0), .int x1, .int x2, .int x3]) ++ List.replicate (4 - (lg_sl ([.ref (bF 0), .int x1, .int x2, .int x3])).length) Slot.unset).toArray = ls at hl ⊢
  have hl : lv_has ls 4 [(0, .ref (bF 0)), (1, .int x1), (2, .int x2), (3, .int x3)] := hl
  have htu : ∀ w ∈ UW, w.before _ s = true := fun w h => hts w (List.mem_cons_of_mem _ h)
  have k_2_22 := htu _ mw_2_22
  have k_2_1 := htu _ mw_2_1
  have k_2_19 := htu _ mw_2_19
  have k_1_150 := htu _ mw_1_150
  have k_1_239 := htu _ mw_1_239
  unfold f_X7_faulty at hf
  obtain ⟨H, hH⟩ : ∃ z, z = s.heap := ⟨_, rfl⟩
  obtain ⟨locs, hlo⟩ : ∃ z : List Loc, z = [] := ⟨_, rfl⟩
  have hS : va_S A s.heap H locs := by rw [hH, hlo]; exact hS
  rw [← hH] at hP
  have hW : W p l e (headSpec wsX7_faulty rmX7_faulty).room s m ([.ref (bF 0), .int x1, .int x2, .int x3] : List Value).toArray below meth c H locs 0 0 (MQ below (qI g A (cF g bF qF0 (bS 0) qF2 qF3 (bRT 0) vF1 ++ (cS g bS (bC 0) (bT 0) ++ (cC g bC vC ++ (cT g bT vT ++ (cR g bRT nRT (bG 0) (bB 0) vRT1 ++ (cL g bG vG1 ++ (cL g bB vB1))))))) r) ([.ref (bF 0), .int x1, .int x2, .int x3] : List Value).toArray s 0 0 A) (F0 m 0 ls []) := by
    refine lv_aload_n hx hb dX7_faulty_0 rfl (lv_at hl 0 rfl) ?_
    refine lv_iload_n hx hb dX7_faulty_1 rfl (lv_at hl 1 rfl) ?_
    obtain ⟨c1, hg2, hf⟩ := o1_at hf
    have hc1 : c1 = 0 := Classical.byContradiction (fun h9 => h9 (kp_6 (it_f hf h9)).1)
    have hf := it_t hf hc1
    rw [hc1] at hg2
    refine k_vvP ⟨hx, hb, hml, hown, htu⟩ hK hP hD hS hA hG (c_X7_checkTest l g bF qF0 qF2 qF3 (bRT 0) vF bS (bC 0) bT vT x1 hg2) (cwV 1 htu (gU_V mw_4_157 hcX7_checkTest) rfl rfl rfl hdX7_checkTest ⟨Nat.le_of_ble_eq_true rfl, Nat.le_of_ble_eq_true rfl⟩) (q0 := 0) (ci := 7) (fs := fcF bF qF0 (bS 0) qF2 qF3 (bRT 0) vF) (q := (RX7, TX7, 12)) rfl rfl rfl (wr := (cC g bC vC ++ (cR g bRT nRT (bG 0) (bB 0) vRT ++ (cL g bG vG ++ (cL g bB vB))))) (w2 := cF g bF qF0 (bS 0) qF2 qF3 (bRT 0) vF ++ (cS g bS (bC 0) (bT 0) ++ (cC g bC vC ++ (cT g bT vT ++ (cR g bRT nRT (bG 0) (bB 0) vRT ++ (cL g bG vG ++ (cL g bB vB))))))) [0, 1, 2, 3, 4, 5, 6, 18, 19, 20, 21, 22] [7, 8, 9, 10, 11, 12, 13, 14, 15, 16, 17, 23, 24, 25, 26, 27, 28, 29, 30, 31] [20, 21, 22, 23, 24, 25, 26, 0, 1, 2, 3, 4, 5, 6, 7, 8, 9, 10, 27, 28, 29, 30, 31, 11, 12, 13, 14, 15, 16, 17, 18, 19] rfl rfl (by decide) (by decide) (by decide) rfl rfl (by decide) (As := [.int x1]) (rest := []) rfl rfl hl.1 (Nat.le_of_ble_eq_true rfl) dX7_faulty_2 (k1 := 0) (n1 := 0) rfl rfl ⟨Nat.zero_le _, Nat.zero_le _⟩ (fun H locs hP hD hS => ?_)
    refine lv_aload_n hx hb dX7_faulty_5 rfl (lv_at hl 0 rfl) ?_
    refine lv_iload_n hx hb dX7_faulty_6 rfl (lv_at hl 2 rfl) ?_
    obtain ⟨c3, hg4, hf⟩ := o1_at hf
    have hc3 : c3 = 0 := Classical.byContradiction (fun h9 => h9 (kp_6 (it_f hf h9)).1)
    have hf := it_t hf hc3
    rw [hc3] at hg4
    refine k_vvP ⟨hx, hb, hml, hown, htu⟩ hK hP hD hS hA hG (c_X7_checkFault l g bF qF0 qF2 qF3 (bRT 0) vF bS (bT 0) bC vC x2 hg4) (cwV 1 htu (gU_V mw_4_169 hcX7_checkFault) rfl rfl rfl hdX7_checkFault ⟨Nat.le_of_ble_eq_true rfl, Nat.le_of_ble_eq_true rfl⟩) (q0 := 0) (ci := 7) (fs := fcF bF qF0 (bS 0) qF2 qF3 (bRT 0) vF) (q := (RX7, TX7, 12)) rfl rfl rfl (wr := (cT g bT vT ++ (cR g bRT nRT (bG 0) (bB 0) vRT ++ (cL g bG vG ++ (cL g bB vB))))) (w2 := cF g bF qF0 (bS 0) qF2 qF3 (bRT 0) vF ++ (cS g bS (bC 0) (bT 0) ++ (cC g bC vC ++ (cT g bT vT ++ (cR g bRT nRT (bG 0) (bB 0) vRT ++ (cL g bG vG ++ (cL g bB vB))))))) [0, 1, 2, 3, 4, 5, 6, 7, 8, 9, 10, 11, 12, 13, 14, 15, 16, 17] [18, 19, 20, 21, 22, 23, 24, 25, 26, 27, 28, 29, 30, 31] [14, 15, 16, 17, 18, 19, 20, 21, 22, 23, 24, 25, 26, 27, 28, 29, 30, 31, 0, 1, 2, 3, 4, 5, 6, 7, 8, 9, 10, 11, 12, 13] rfl rfl (by decide) (by decide) (by decide) rfl rfl (by decide) (As := [.int x2]) (rest := []) rfl rfl hl.1 (Nat.le_of_ble_eq_true rfl) dX7_faulty_7 (k1 := 0) (n1 := 0) rfl rfl ⟨Nat.zero_le _, Nat.zero_le _⟩ (fun H locs hP hD hS => ?_)
    refine lv_aload_n hx hb dX7_faulty_10 rfl (lv_at hl 0 rfl) ?_
    refine lv_iload_n hx hb dX7_faulty_11 rfl (lv_at hl 3 rfl) ?_
    obtain ⟨c5, hg6, hf⟩ := o1_at hf
    have hc5 : c5 = 0 := Classical.byContradiction (fun h9 => h9 (kp_6 (it_f hf h9)).1)
    have hf := it_t hf hc5
    rw [hc5] at hg6
    refine k_vvP ⟨hx, hb, hml, hown, htu⟩ hK hP hD hS hA hG (c_X7_checkWire l g bF qF0 qF2 qF3 (bRT 0) vF bS (bT 0) bC vC x3 hg6) (cwV 1 htu (gU_V mw_3_129 hcX7_checkWire) rfl rfl rfl hdX7_checkWire ⟨Nat.le_of_ble_eq_true rfl, Nat.le_of_ble_eq_true rfl⟩) (q0 := 0) (ci := 7) (fs := fcF bF qF0 (bS 0) qF2 qF3 (bRT 0) vF) (q := (RX7, TX7, 12)) rfl rfl rfl (wr := (cT g bT vT ++ (cR g bRT nRT (bG 0) (bB 0) vRT ++ (cL g bG vG ++ (cL g bB vB))))) (w2 := cF g bF qF0 (bS 0) qF2 qF3 (bRT 0) vF ++ (cS g bS (bC 0) (bT 0) ++ (cC g bC vC ++ (cT g bT vT ++ (cR g bRT nRT (bG 0) (bB 0) vRT ++ (cL g bG vG ++ (cL g bB vB))))))) [0, 1, 2, 3, 4, 5, 6, 7, 8, 9, 10, 11, 12, 13, 14, 15, 16, 17] [18, 19, 20, 21, 22, 23, 24, 25, 26, 27, 28, 29, 30, 31] [14, 15, 16, 17, 18, 19, 20, 21, 22, 23, 24, 25, 26, 27, 28, 29, 30, 31, 0, 1, 2, 3, 4, 5, 6, 7, 8, 9, 10, 11, 12, 13] rfl rfl (by decide) (by decide) (by decide) rfl rfl (by decide) (As := [.int x3]) (rest := []) rfl rfl hl.1 (Nat.le_of_ble_eq_true rfl) dX7_faulty_12 (k1 := 0) (n1 := 0) rfl rfl ⟨Nat.zero_le _, Nat.zero_le _⟩ (fun H locs hP hD hS => ?_)
    refine lv_aload_n hx hb dX7_faulty_15 rfl (lv_at hl 0 rfl) ?_
    obtain ⟨vF_7, vRT_8, vG_9, vB_10, hg11, hf⟩ := o4_at hf
    refine k_vvW ⟨hx, hb, hml, hown, htu⟩ hK hP hD hS hA hG (c_X7_refreshTestRows l g bF qF0 qF2 qF3 vF bS bC vC bT vT bRT nRT vRT bG vG bB vB vF_7 vRT_8 vG_9 vB_10 hg11) (cwV 0 htu (gU_V mw_2_157 hcX7_refreshTestRows) rfl rfl rfl hdX7_refreshTestRows ⟨Nat.le_of_ble_eq_true rfl, Nat.le_of_ble_eq_true rfl⟩) (q0 := 0) (ci := 7) (fs := fcF bF qF0 (bS 0) qF2 qF3 (bRT 0) vF) (q := (RX7, TX7, 12)) rfl rfl rfl (As := []) (rest := []) rfl rfl hl.1 (Nat.le_of_ble_eq_true rfl) dX7_faulty_16 (k1 := 0) (n1 := 0) rfl rfl ⟨Nat.zero_le _, Nat.zero_le _⟩ (fun H locs hP hD hS => ?_)
    refine lv_aload_n hx hb dX7_faulty_19 rfl (lv_at hl 0 rfl) ?_
    refine va_get (D := g.1) (ci := 7) (fs := fcF bF qF0 (bS 0) qF2 qF3 (bRT 0) vF_7) (v := .ref (bRT 0)) (C := RX7) (T := TX7) (N := 12) hx hb htu hinX7 hown hK hP 0 rfl rfl 4 (by decide) k_2_22 (fun _ h9 => h9) rfl dX7_faulty_20 ?_
    refine va_get (D := g.1) (ci := 3) (fs := fcR bRT (bG 0) (bB 0) vRT_8) (v := .ref (bB 0)) (C := RX3) (T := TX3) (N := 5) hx hb htu hinX3 hown hK hP 23 rfl rfl 1 (by decide) k_2_1 (fun _ h9 => h9) rfl dX7_faulty_23 ?_
    refine lv_aload_n hx hb dX7_faulty_26 rfl (lv_at hl 0 rfl) ?_
    refine va_get (D := g.1) (ci := 7) (fs := fcF bF qF0 (bS 0) qF2 qF3 (bRT 0) vF_7) (v := .ref (bS 0)) (C := RX7) (T := TX7) (N := 12) hx hb htu hinX7 hown hK hP 0 rfl rfl 1 (by decide) k_2_19 (fun _ h9 => h9) rfl dX7_faulty_27 ?_
    refine va_get (D := g.1) (ci := 4) (fs := fcS bS (bC 0) (bT 0)) (v := .ref (bC 0)) (C := RX4) (T := TX4) (N := 2) hx hb htu hinX4 hown hK hP 6 rfl rfl 0 (by decide) k_1_150 (fun _ h9 => h9) rfl dX7_faulty_30 ?_
    refine lv_aload_n hx hb dX7_faulty_33 rfl (lv_at hl 0 rfl) ?_
    refine va_get (D := g.1) (ci := 7) (fs := fcF bF qF0 (bS 0) qF2 qF3 (bRT 0) vF_7) (v := .ref (bRT 0)) (C := RX7) (T := TX7) (N := 12) hx hb htu hinX7 hown hK hP 0 rfl rfl 4 (by decide) k_2_22 (fun _ h9 => h9) rfl dX7_faulty_34 ?_
    refine va_get (D := g.1) (ci := 3) (fs := fcR bRT (bG 0) (bB 0) vRT_8) (v := .ref (bG 0)) (C := RX3) (T := TX3) (N := 5) hx hb htu hinX3 hown hK hP 23 rfl rfl 0 (by decide) k_1_239 (fun _ h9 => h9) rfl dX7_faulty_37 ?_
    refine lv_iload_n hx hb dX7_faulty_40 rfl (lv_at hl 2 rfl) ?_
    obtain ⟨vB_12, hg13, hf⟩ := o1_at hf
    refine k_vvP ⟨hx, hb, hml, hown, htu⟩ hK hP hD hS hA hG (c_X2_runFault l g bB vB_10 bC vC bG vG_9 x2 vB_12 hg13) (cwV 3 htu (gU_V mw_4_174 hcX2_runFault) rfl rfl rfl hdX2_runFault ⟨Nat.le_of_ble_eq_true rfl, Nat.le_of_ble_eq_true rfl⟩) (q0 := 29) (ci := 2) (fs := fcL bB vB_10) (q := (RX2, TX2, 2)) rfl rfl rfl (wr := (cF g bF qF0 (bS 0) qF2 qF3 (bRT 0) vF_7 ++ (cS g bS (bC 0) (bT 0) ++ (cT g bT vT ++ (cR g bRT nRT (bG 0) (bB 0) vRT_8))))) (w2 := cF g bF qF0 (bS 0) qF2 qF3 (bRT 0) vF_7 ++ (cS g bS (bC 0) (bT 0) ++ (cC g bC vC ++ (cT g bT vT ++ (cR g bRT nRT (bG 0) (bB 0) vRT_8 ++ (cL g bG vG_9 ++ (cL g bB vB_12))))))) [29, 30, 31, 7, 8, 9, 10, 11, 12, 13, 14, 15, 16, 17, 26, 27, 28] [0, 1, 2, 3, 4, 5, 6, 18, 19, 20, 21, 22, 23, 24, 25] [0, 1, 2, 3, 4, 5, 6, 18, 19, 20, 21, 22, 23, 24, 25, 26, 27, 28, 7, 8, 9, 10, 11, 12, 13, 14, 29, 30, 31, 15, 16, 17] rfl rfl (by decide) (by decide) (by decide) rfl rfl (by decide) (As := [.ref (bC 0), .ref (bG 0), .int x2]) (rest := []) rfl rfl hl.1 (Nat.le_of_ble_eq_true rfl) dX7_faulty_41 (k1 := 0) (n1 := 0) rfl rfl ⟨Nat.zero_le _, Nat.zero_le _⟩ (fun H locs hP hD hS => ?_)
    refine lv_aload_n hx hb dX7_faulty_44 rfl (lv_at hl 0 rfl) ?_
    refine va_get (D := g.1) (ci := 7) (fs := fcF bF qF0 (bS 0) qF2 qF3 (bRT 0) vF_7) (v := .ref (bRT 0)) (C := RX7) (T := TX7) (N := 12) hx hb htu hinX7 hown hK hP 0 rfl rfl 4 (by decide) k_2_22 (fun _ h9 => h9) rfl dX7_faulty_45 ?_
    refine va_get (D := g.1) (ci := 3) (fs := fcR bRT (bG 0) (bB 0) vRT_8) (v := .ref (bB 0)) (C := RX3) (T := TX3) (N := 5) hx hb htu hinX3 hown hK hP 23 rfl rfl 1 (by decide) k_2_1 (fun _ h9 => h9) rfl dX7_faulty_48 ?_
    refine lv_iload_n hx hb dX7_faulty_51 rfl (lv_at hl 3 rfl) ?_
    refine lv_iload_n hx hb dX7_faulty_52 rfl (lv_at hl 1 rfl) ?_
    obtain ⟨r14, hg15, hf⟩ := o1_at hf
    refine k_viP ⟨hx, hb, hml, hown, htu⟩ hK hP hD hS hA hG (c_X2_lane l g bB vB_12 x3 x1 r14 hg15) (cwV 2 htu (gU_V mw_3_157 hcX2_lane) rfl rfl rfl hdX2_lane ⟨Nat.le_of_ble_eq_true rfl, Nat.le_of_ble_eq_true rfl⟩) (q0 := 29) (ci := 2) (fs := fcL bB vB_12) (q := (RX2, TX2, 2)) rfl rfl rfl (wr := (cF g bF qF0 (bS 0) qF2 qF3 (bRT 0) vF_7 ++ (cS g bS (bC 0) (bT 0) ++ (cC g bC vC ++ (cT g bT vT ++ (cR g bRT nRT (bG 0) (bB 0) vRT_8 ++ (cL g bG vG_9))))))) (w2 := cF g bF qF0 (bS 0) qF2 qF3 (bRT 0) vF_7 ++ (cS g bS (bC 0) (bT 0) ++ (cC g bC vC ++ (cT g bT vT ++ (cR g bRT nRT (bG 0) (bB 0) vRT_8 ++ (cL g bG vG_9 ++ (cL g bB vB_12))))))) [29, 30, 31] [0, 1, 2, 3, 4, 5, 6, 7, 8, 9, 10, 11, 12, 13, 14, 15, 16, 17, 18, 19, 20, 21, 22, 23, 24, 25, 26, 27, 28] [0, 1, 2, 3, 4, 5, 6, 7, 8, 9, 10, 11, 12, 13, 14, 15, 16, 17, 18, 19, 20, 21, 22, 23, 24, 25, 26, 27, 28, 29, 30, 31] rfl rfl (by decide) (by decide) (by decide) rfl rfl (by decide) (As := [.int x3, .int x1]) (rest := []) rfl rfl hl.1 (Nat.le_of_ble_eq_true rfl) dX7_faulty_53 (k1 := 0) (n1 := 0) rfl rfl ⟨Nat.zero_le _, Nat.zero_le _⟩ (fun H locs hP hD hS => ?_)
    obtain ⟨e16, e17, e18, e19, e20, e21⟩ := kp_6 hf
    rw [e18] at hP hD
    rw [e19] at hP hD
    rw [e20] at hP hD
    rw [e21] at hP hD
    exact k_iret hx hb hr hlocks hK hP hD hS e17 dX7_faulty_56
  rw [hH, hlo] at hW
  exact hW
abbrev rtX7_faulty : Room := { frames := 9, cells := 1, slots := 6, locals := 141 }
set_option maxHeartbeats 4000000 in
set_option maxRecDepth 100000 in
theorem t_X7_faulty (l : Launch) (hst : l.stackTraces = false) (g : Gx) (bF : Nat → Nat) (qF0 : Nat) (qF2 : Nat) (qF3 : Nat) (vF : Vs) (bS : Nat → Nat) (bC : Nat → Nat) (vC : Vs) (bT : Nat → Nat) (vT : Vs) (bRT : Nat → Nat) (nRT : Nat) (vRT : Vs) (bG : Nat → Nat) (vG : Vs) (bB : Nat → Nat) (vB : Vs) (x1 : Int32) (x2 : Int32) (x3 : Int32) (r : Int32) (vF1 : Vs) (vRT1 : Vs) (vG1 : Vs) (vB1 : Vs) (ek : Nat) (hf : f_X7_faulty vF vC vT nRT vRT vG vB x1 x2 x3 = some (ek, r, vF1, vRT1, vG1, vB1)) (hek : ¬ ek = 0) : CtXI l yX7_faulty wsX7_faulty rtX7_faulty g [.ref (bF 0), .int x1, .int x2, .int x3] (cF g bF qF0 (bS 0) qF2 qF3 (bRT 0) vF ++ (cS g bS (bC 0) (bT 0) ++ (cC g bC vC ++ (cT g bT vT ++ (cR g bRT nRT (bG 0) (bB 0) vRT ++ (cL g bG vG ++ (cL g bB vB))))))) (cF g bF qF0 (bS 0) qF2 qF3 (bRT 0) vF1 ++ (cS g bS (bC 0) (bT 0) ++ (cC g bC vC ++ (cT g bT vT ++ (cR g bRT nRT (bG 0) (bB 0) vRT1 ++ (cL g bG vG1 ++ (cL g bB vB1))))))) (exN ek) 1 6 := by
  unfold CtXI
  intro sz
  refine vx_ofW (cc := cX7_faulty) (maxL := 4) (ret := (some .int)) (by decide) rfl ?_
  intro p e s m args below meth c s₁ B hml hT hv
  obtain ⟨rfl, hsz, hP, hK, hD0, hG⟩ := hv
  have hx := B.exec
  have hb := B.bytes
  have hr := B.returns
  have hts := atoms_spec (ws := wsX7_faulty) B.pre
  have hown : s.vm.findClass RX7 = some m.cls := findClass_of_methodNamed B.named
  have hlocks := B.notSynchronized
  subst hsz
  have hD := hD0.self (sz := s.heap.size)
  generalize hAe : va_A (cF g bF qF0 (bS 0) qF2 qF3 (bRT 0) vF ++ (cS g bS (bC 0) (bT 0) ++ (cC g bC vC ++ (cT g bT vT ++ (cR g bRT nRT (bG 0) (bB 0) vRT ++ (cL g bG vG ++ (cL g bB vB))))))) s.heap.size = A at hD hG ⊢
  have hA : ∀ q : Nat, s.heap.size ≤ q → A q := fun q h => by rw [← hAe]; exact Or.inr h
  clear hAe hD0
  have hS : va_S A s.heap s.heap [] := va_S.rf
  have hl := lv_entry ([.ref (bF 0), .int x1, .int x2, .int x3]) (n := 4) (Nat.le_of_ble_eq_true rfl)
  rw [lg_entry_eq]
  generalize (lg_sl ([.ref (bF 0), .int x1, .int x2, .int x3]) ++ List.replicate (4 - (lg_sl ([.ref (bF 0), .int x1, .int x2, .int x3])).length) Slot.unset).toArray = ls at hl ⊢
  have hl : lv_has ls 4 [(0, .ref (bF 0)), (1, .int x1), (2, .int x2), (3, .int x3)] := hl
  have htu : ∀ w ∈ UW, w.before _ s = true := fun w h => hts w (List.mem_cons_of_mem _ h)
  have k_2_22 := htu _ mw_2_22
  have k_2_1 := htu _ mw_2_1
  have k_2_19 := htu _ mw_2_19
  have k_1_150 := htu _ mw_1_150
  have k_1_239 := htu _ mw_1_239
  unfold f_X7_faulty at hf
  obtain ⟨H, hH⟩ : ∃ z, z = s.heap := ⟨_, rfl⟩
  obtain ⟨locs, hlo⟩ : ∃ z : List Loc, z = [] := ⟨_, rfl⟩
  have hS : va_S A s.heap H locs := by rw [hH, hlo]; exact hS
  rw [← hH] at hP
  have hW : W p l e (headSpec wsX7_faulty rtX7_faulty).room s m ([.ref (bF 0), .int x1, .int x2, .int x3] : List Value).toArray below meth c H locs 0 0 (vx_MQ below (nI0 A) (xE g A (cF g bF qF0 (bS 0) qF2 qF3 (bRT 0) vF1 ++ (cS g bS (bC 0) (bT 0) ++ (cC g bC vC ++ (cT g bT vT ++ (cR g bRT nRT (bG 0) (bB 0) vRT1 ++ (cL g bG vG1 ++ (cL g bB vB1))))))) (exN ek)) ([.ref (bF 0), .int x1, .int x2, .int x3] : List Value).toArray s 1 6 A) (F0 m 0 ls []) := by
    refine lv_aload_n hx hb dX7_faulty_0 rfl (lv_at hl 0 rfl) ?_
    refine lv_iload_n hx hb dX7_faulty_1 rfl (lv_at hl 1 rfl) ?_
    obtain ⟨c1, hg2, hf⟩ := o1_at hf
    rcases Classical.em (¬ c1 = 0) with hc1 | hc1
    · have hf := it_f hf hc1
      obtain ⟨rfl, rfl, rfl, rfl, rfl, rfl⟩ := kp_6 hf
      exact kx_vvP ⟨hx, hb, hml, hown, htu⟩ hK hP hD hS hA hG (t_X7_checkTest l hst g bF qF0 qF2 qF3 (bRT 0) vF bS (bC 0) bT vT x1 c1 hg2 hc1) (cwV 1 htu (gU_V mw_4_157 hcX7_checkTest) rfl rfl rfl hdX7_checkTest ⟨Nat.le_of_ble_eq_true rfl, Nat.le_of_ble_eq_true rfl⟩) (q0 := 0) (ci := 7) (fs := fcF bF qF0 (bS 0) qF2 qF3 (bRT 0) vF) (q := (RX7, TX7, 12)) rfl rfl rfl (wr := (cC g bC vC ++ (cR g bRT nRT (bG 0) (bB 0) vRT ++ (cL g bG vG ++ (cL g bB vB))))) (w2 := cF g bF qF0 (bS 0) qF2 qF3 (bRT 0) vF ++ (cS g bS (bC 0) (bT 0) ++ (cC g bC vC ++ (cT g bT vT ++ (cR g bRT nRT (bG 0) (bB 0) vRT ++ (cL g bG vG ++ (cL g bB vB))))))) [0, 1, 2, 3, 4, 5, 6, 18, 19, 20, 21, 22] [7, 8, 9, 10, 11, 12, 13, 14, 15, 16, 17, 23, 24, 25, 26, 27, 28, 29, 30, 31] [20, 21, 22, 23, 24, 25, 26, 0, 1, 2, 3, 4, 5, 6, 7, 8, 9, 10, 27, 28, 29, 30, 31, 11, 12, 13, 14, 15, 16, 17, 18, 19] rfl rfl (by decide) (by decide) (by decide) rfl rfl (by decide) (As := [.int x1]) (rest := []) rfl rfl hl.1 (Nat.le_of_ble_eq_true rfl) dX7_faulty_2 ⟨Nat.le_refl _, Nat.le_refl _⟩ ⟨Nat.le_refl _, Nat.le_refl _⟩ hT hlocks
    have hc1 := Classical.not_not.mp hc1
    have hf := it_t hf hc1
    rw [hc1] at hg2
    refine k_vvP ⟨hx, hb, hml, hown, htu⟩ hK hP hD hS hA hG (c_X7_checkTest l g bF qF0 qF2 qF3 (bRT 0) vF bS (bC 0) bT vT x1 hg2) (cwV 1 htu (gU_V mw_4_157 hcX7_checkTest) rfl rfl rfl hdX7_checkTest ⟨Nat.le_of_ble_eq_true rfl, Nat.le_of_ble_eq_true rfl⟩) (q0 := 0) (ci := 7) (fs := fcF bF qF0 (bS 0) qF2 qF3 (bRT 0) vF) (q := (RX7, TX7, 12)) rfl rfl rfl (wr := (cC g bC vC ++ (cR g bRT nRT (bG 0) (bB 0) vRT ++ (cL g bG vG ++ (cL g bB vB))))) (w2 := cF g bF qF0 (bS 0) qF2 qF3 (bRT 0) vF ++ (cS g bS (bC 0) (bT 0) ++ (cC g bC vC ++ (cT g bT vT ++ (cR g bRT nRT (bG 0) (bB 0) vRT ++ (cL g bG vG ++ (cL g bB vB))))))) [0, 1, 2, 3, 4, 5, 6, 18, 19, 20, 21, 22] [7, 8, 9, 10, 11, 12, 13, 14, 15, 16, 17, 23, 24, 25, 26, 27, 28, 29, 30, 31] [20, 21, 22, 23, 24, 25, 26, 0, 1, 2, 3, 4, 5, 6, 7, 8, 9, 10, 27, 28, 29, 30, 31, 11, 12, 13, 14, 15, 16, 17, 18, 19] rfl rfl (by decide) (by decide) (by decide) rfl rfl (by decide) (As := [.int x1]) (rest := []) rfl rfl hl.1 (Nat.le_of_ble_eq_true rfl) dX7_faulty_2 (k1 := 0) (n1 := 0) rfl rfl ⟨Nat.zero_le _, Nat.zero_le _⟩ (fun H locs hP hD hS => ?_)
    refine lv_aload_n hx hb dX7_faulty_5 rfl (lv_at hl 0 rfl) ?_
    refine lv_iload_n hx hb dX7_faulty_6 rfl (lv_at hl 2 rfl) ?_
    obtain ⟨c3, hg4, hf⟩ := o1_at hf
    rcases Classical.em (¬ c3 = 0) with hc3 | hc3
    · have hf := it_f hf hc3
      obtain ⟨rfl, rfl, rfl, rfl, rfl, rfl⟩ := kp_6 hf
      exact kx_vvP ⟨hx, hb, hml, hown, htu⟩ hK hP hD hS hA hG (t_X7_checkFault l hst g bF qF0 qF2 qF3 (bRT 0) vF bS (bT 0) bC vC x2 c3 hg4 hc3) (cwV 1 htu (gU_V mw_4_169 hcX7_checkFault) rfl rfl rfl hdX7_checkFault ⟨Nat.le_of_ble_eq_true rfl, Nat.le_of_ble_eq_true rfl⟩) (q0 := 0) (ci := 7) (fs := fcF bF qF0 (bS 0) qF2 qF3 (bRT 0) vF) (q := (RX7, TX7, 12)) rfl rfl rfl (wr := (cT g bT vT ++ (cR g bRT nRT (bG 0) (bB 0) vRT ++ (cL g bG vG ++ (cL g bB vB))))) (w2 := cF g bF qF0 (bS 0) qF2 qF3 (bRT 0) vF ++ (cS g bS (bC 0) (bT 0) ++ (cC g bC vC ++ (cT g bT vT ++ (cR g bRT nRT (bG 0) (bB 0) vRT ++ (cL g bG vG ++ (cL g bB vB))))))) [0, 1, 2, 3, 4, 5, 6, 7, 8, 9, 10, 11, 12, 13, 14, 15, 16, 17] [18, 19, 20, 21, 22, 23, 24, 25, 26, 27, 28, 29, 30, 31] [14, 15, 16, 17, 18, 19, 20, 21, 22, 23, 24, 25, 26, 27, 28, 29, 30, 31, 0, 1, 2, 3, 4, 5, 6, 7, 8, 9, 10, 11, 12, 13] rfl rfl (by decide) (by decide) (by decide) rfl rfl (by decide) (As := [.int x2]) (rest := []) rfl rfl hl.1 (Nat.le_of_ble_eq_true rfl) dX7_faulty_7 ⟨Nat.le_refl _, Nat.le_refl _⟩ ⟨Nat.le_refl _, Nat.le_refl _⟩ hT hlocks
    have hc3 := Classical.not_not.mp hc3
    have hf := it_t hf hc3
    rw [hc3] at hg4
    refine k_vvP ⟨hx, hb, hml, hown, htu⟩ hK hP hD hS hA hG (c_X7_checkFault l g bF qF0 qF2 qF3 (bRT 0) vF bS (bT 0) bC vC x2 hg4) (cwV 1 htu (gU_V mw_4_169 hcX7_checkFault) rfl rfl rfl hdX7_checkFault ⟨Nat.le_of_ble_eq_true rfl, Nat.le_of_ble_eq_true rfl⟩) (q0 := 0) (ci := 7) (fs := fcF bF qF0 (bS 0) qF2 qF3 (bRT 0) vF) (q := (RX7, TX7, 12)) rfl rfl rfl (wr := (cT g bT vT ++ (cR g bRT nRT (bG 0) (bB 0) vRT ++ (cL g bG vG ++ (cL g bB vB))))) (w2 := cF g bF qF0 (bS 0) qF2 qF3 (bRT 0) vF ++ (cS g bS (bC 0) (bT 0) ++ (cC g bC vC ++ (cT g bT vT ++ (cR g bRT nRT (bG 0) (bB 0) vRT ++ (cL g bG vG ++ (cL g bB vB))))))) [0, 1, 2, 3, 4, 5, 6, 7, 8, 9, 10, 11, 12, 13, 14, 15, 16, 17] [18, 19, 20, 21, 22, 23, 24, 25, 26, 27, 28, 29, 30, 31] [14, 15, 16, 17, 18, 19, 20, 21, 22, 23, 24, 25, 26, 27, 28, 29, 30, 31, 0, 1, 2, 3, 4, 5, 6, 7, 8, 9, 10, 11, 12, 13] rfl rfl (by decide) (by decide) (by decide) rfl rfl (by decide) (As := [.int x2]) (rest := []) rfl rfl hl.1 (Nat.le_of_ble_eq_true rfl) dX7_faulty_7 (k1 := 0) (n1 := 0) rfl rfl ⟨Nat.zero_le _, Nat.zero_le _⟩ (fun H locs hP hD hS => ?_)
    refine lv_aload_n hx hb dX7_faulty_10 rfl (lv_at hl 0 rfl) ?_
    refine lv_iload_n hx hb dX7_faulty_11 rfl (lv_at hl 3 rfl) ?_
    obtain ⟨c5, hg6, hf⟩ := o1_at hf
    rcases Classical.em (¬ c5 = 0) with hc5 | hc5
    · have hf := it_f hf hc5
      obtain ⟨rfl, rfl, rfl, rfl, rfl, rfl⟩ := kp_6 hf
      exact kx_vvP ⟨hx, hb, hml, hown, htu⟩ hK hP hD hS hA hG (t_X7_checkWire l hst g bF qF0 qF2 qF3 (bRT 0) vF bS (bT 0) bC vC x3 c5 hg6 hc5) (cwV 1 htu (gU_V mw_3_129 hcX7_checkWire) rfl rfl rfl hdX7_checkWire ⟨Nat.le_of_ble_eq_true rfl, Nat.le_of_ble_eq_true rfl⟩) (q0 := 0) (ci := 7) (fs := fcF bF qF0 (bS 0) qF2 qF3 (bRT 0) vF) (q := (RX7, TX7, 12)) rfl rfl rfl (wr := (cT g bT vT ++ (cR g bRT nRT (bG 0) (bB 0) vRT ++ (cL g bG vG ++ (cL g bB vB))))) (w2 := cF g bF qF0 (bS 0) qF2 qF3 (bRT 0) vF ++ (cS g bS (bC 0) (bT 0) ++ (cC g bC vC ++ (cT g bT vT ++ (cR g bRT nRT (bG 0) (bB 0) vRT ++ (cL g bG vG ++ (cL g bB vB))))))) [0, 1, 2, 3, 4, 5, 6, 7, 8, 9, 10, 11, 12, 13, 14, 15, 16, 17] [18, 19, 20, 21, 22, 23, 24, 25, 26, 27, 28, 29, 30, 31] [14, 15, 16, 17, 18, 19, 20, 21, 22, 23, 24, 25, 26, 27, 28, 29, 30, 31, 0, 1, 2, 3, 4, 5, 6, 7, 8, 9, 10, 11, 12, 13] rfl rfl (by decide) (by decide) (by decide) rfl rfl (by decide) (As := [.int x3]) (rest := []) rfl rfl hl.1 (Nat.le_of_ble_eq_true rfl) dX7_faulty_12 ⟨Nat.le_refl _, Nat.le_refl _⟩ ⟨Nat.le_refl _, Nat.le_refl _⟩ hT hlocks
    have hc5 := Classical.not_not.mp hc5
    have hf := it_t hf hc5
    rw [hc5] at hg6
    refine k_vvP ⟨hx, hb, hml, hown, htu⟩ hK hP hD hS hA hG (c_X7_checkWire l g bF qF0 qF2 qF3 (bRT 0) vF bS (bT 0) bC vC x3 hg6) (cwV 1 htu (gU_V mw_3_129 hcX7_checkWire) rfl rfl rfl hdX7_checkWire ⟨Nat.le_of_ble_eq_true rfl, Nat.le_of_ble_eq_true rfl⟩) (q0 := 0) (ci := 7) (fs := fcF bF qF0 (bS 0) qF2 qF3 (bRT 0) vF) (q := (RX7, TX7, 12)) rfl rfl rfl (wr := (cT g bT vT ++ (cR g bRT nRT (bG 0) (bB 0) vRT ++ (cL g bG vG ++ (cL g bB vB))))) (w2 := cF g bF qF0 (bS 0) qF2 qF3 (bRT 0) vF ++ (cS g bS (bC 0) (bT 0) ++ (cC g bC vC ++ (cT g bT vT ++ (cR g bRT nRT (bG 0) (bB 0) vRT ++ (cL g bG vG ++ (cL g bB vB))))))) [0, 1, 2, 3, 4, 5, 6, 7, 8, 9, 10, 11, 12, 13, 14, 15, 16, 17] [18, 19, 20, 21, 22, 23, 24, 25, 26, 27, 28, 29, 30, 31] [14, 15, 16, 17, 18, 19, 20, 21, 22, 23, 24, 25, 26, 27, 28, 29, 30, 31, 0, 1, 2, 3, 4, 5, 6, 7, 8, 9, 10, 11, 12, 13] rfl rfl (by decide) (by decide) (by decide) rfl rfl (by decide) (As := [.int x3]) (rest := []) rfl rfl hl.1 (Nat.le_of_ble_eq_true rfl) dX7_faulty_12 (k1 := 0) (n1 := 0) rfl rfl ⟨Nat.zero_le _, Nat.zero_le _⟩ (fun H locs hP hD hS => ?_)
    refine lv_aload_n hx hb dX7_faulty_15 rfl (lv_at hl 0 rfl) ?_
    obtain ⟨vF_7, vRT_8, vG_9, vB_10, hg11, hf⟩ := o4_at hf
    refine k_vvW ⟨hx, hb, hml, hown, htu⟩ hK hP hD hS hA hG (c_X7_refreshTestRows l g bF qF0 qF2 qF3 vF bS bC vC bT vT bRT nRT vRT bG vG bB vB vF_7 vRT_8 vG_9 vB_10 hg11) (cwV 0 htu (gU_V mw_2_157 hcX7_refreshTestRows) rfl rfl rfl hdX7_refreshTestRows ⟨Nat.le_of_ble_eq_true rfl, Nat.le_of_ble_eq_true rfl⟩) (q0 := 0) (ci := 7) (fs := fcF bF qF0 (bS 0) qF2 qF3 (bRT 0) vF) (q := (RX7, TX7, 12)) rfl rfl rfl (As := []) (rest := []) rfl rfl hl.1 (Nat.le_of_ble_eq_true rfl) dX7_faulty_16 (k1 := 0) (n1 := 0) rfl rfl ⟨Nat.zero_le _, Nat.zero_le _⟩ (fun H locs hP hD hS => ?_)
    refine lv_aload_n hx hb dX7_faulty_19 rfl (lv_at hl 0 rfl) ?_
    refine va_get (D := g.1) (ci := 7) (fs := fcF bF qF0 (bS 0) qF2 qF3 (bRT 0) vF_7) (v := .ref (bRT 0)) (C := RX7) (T := TX7) (N := 12) hx hb htu hinX7 hown hK hP 0 rfl rfl 4 (by decide) k_2_22 (fun _ h9 => h9) rfl dX7_faulty_20 ?_
    refine va_get (D := g.1) (ci := 3) (fs := fcR bRT (bG 0) (bB 0) vRT_8) (v := .ref (bB 0)) (C := RX3) (T := TX3) (N := 5) hx hb htu hinX3 hown hK hP 23 rfl rfl 1 (by decide) k_2_1 (fun _ h9 => h9) rfl dX7_faulty_23 ?_
    refine lv_aload_n hx hb dX7_faulty_26 rfl (lv_at hl 0 rfl) ?_
    refine va_get (D := g.1) (ci := 7) (fs := fcF bF qF0 (bS 0) qF2 qF3 (bRT 0) vF_7) (v := .ref (bS 0)) (C := RX7) (T := TX7) (N := 12) hx hb htu hinX7 hown hK hP 0 rfl rfl 1 (by decide) k_2_19 (fun _ h9 => h9) rfl dX7_faulty_27 ?_
    refine va_get (D := g.1) (ci := 4) (fs := fcS bS (bC 0) (bT 0)) (v := .ref (bC 0)) (C := RX4) (T := TX4) (N := 2) hx hb htu hinX4 hown hK hP 6 rfl rfl 0 (by decide) k_1_150 (fun _ h9 => h9) rfl dX7_faulty_30 ?_
    refine lv_aload_n hx hb dX7_faulty_33 rfl (lv_at hl 0 rfl) ?_
    refine va_get (D := g.1) (ci := 7) (fs := fcF bF qF0 (bS 0) qF2 qF3 (bRT 0) vF_7) (v := .ref (bRT 0)) (C := RX7) (T := TX7) (N := 12) hx hb htu hinX7 hown hK hP 0 rfl rfl 4 (by decide) k_2_22 (fun _ h9 => h9) rfl dX7_faulty_34 ?_
    refine va_get (D := g.1) (ci := 3) (fs := fcR bRT (bG 0) (bB 0) vRT_8) (v := .ref (bG 0)) (C := RX3) (T := TX3) (N := 5) hx hb htu hinX3 hown hK hP 23 rfl rfl 0 (by decide) k_1_239 (fun _ h9 => h9) rfl dX7_faulty_37 ?_
    refine lv_iload_n hx hb dX7_faulty_40 rfl (lv_at hl 2 rfl) ?_
    obtain ⟨vB_12, hg13, hf⟩ := o1_at hf
    refine k_vvP ⟨hx, hb, hml, hown, htu⟩ hK hP hD hS hA hG (c_X2_runFault l g bB vB_10 bC vC bG vG_9 x2 vB_12 hg13) (cwV 3 htu (gU_V mw_4_174 hcX2_runFault) rfl rfl rfl hdX2_runFault ⟨Nat.le_of_ble_eq_true rfl, Nat.le_of_ble_eq_true rfl⟩) (q0 := 29) (ci := 2) (fs := fcL bB vB_10) (q := (RX2, TX2, 2)) rfl rfl rfl (wr := (cF g bF qF0 (bS 0) qF2 qF3 (bRT 0) vF_7 ++ (cS g bS (bC 0) (bT 0) ++ (cT g bT vT ++ (cR g bRT nRT (bG 0) (bB 0) vRT_8))))) (w2 := cF g bF qF0 (bS 0) qF2 qF3 (bRT 0) vF_7 ++ (cS g bS (bC 0) (bT 0) ++ (cC g bC vC ++ (cT g bT vT ++ (cR g bRT nRT (bG 0) (bB 0) vRT_8 ++ (cL g bG vG_9 ++ (cL g bB vB_12))))))) [29, 30, 31, 7, 8, 9, 10, 11, 12, 13, 14, 15, 16, 17, 26, 27, 28] [0, 1, 2, 3, 4, 5, 6, 18, 19, 20, 21, 22, 23, 24, 25] [0, 1, 2, 3, 4, 5, 6, 18, 19, 20, 21, 22, 23, 24, 25, 26, 27, 28, 7, 8, 9, 10, 11, 12, 13, 14, 29, 30, 31, 15, 16, 17] rfl rfl (by decide) (by decide) (by decide) rfl rfl (by decide) (As := [.ref (bC 0), .ref (bG 0), .int x2]) (rest := []) rfl rfl hl.1 (Nat.le_of_ble_eq_true rfl) dX7_faulty_41 (k1 := 0) (n1 := 0) rfl rfl ⟨Nat.zero_le _, Nat.zero_le _⟩ (fun H locs hP hD hS => ?_)
    refine lv_aload_n hx hb dX7_faulty_44 rfl (lv_at hl 0 rfl) ?_
    refine va_get (D := g.1) (ci := 7) (fs := fcF bF qF0 (bS 0) qF2 qF3 (bRT 0) vF_7) (v := .ref (bRT 0)) (C := RX7) (T := TX7) (N := 12) hx hb htu hinX7 hown hK hP 0 rfl rfl 4 (by decide) k_2_22 (fun _ h9 => h9) rfl dX7_faulty_45 ?_
    refine va_get (D := g.1) (ci := 3) (fs := fcR bRT (bG 0) (bB 0) vRT_8) (v := .ref (bB 0)) (C := RX3) (T := TX3) (N := 5) hx hb htu hinX3 hown hK hP 23 rfl rfl 1 (by decide) k_2_1 (fun _ h9 => h9) rfl dX7_faulty_48 ?_
    refine lv_iload_n hx hb dX7_faulty_51 rfl (lv_at hl 3 rfl) ?_
    refine lv_iload_n hx hb dX7_faulty_52 rfl (lv_at hl 1 rfl) ?_
    obtain ⟨r14, hg15, hf⟩ := o1_at hf
    refine k_viP ⟨hx, hb, hml, hown, htu⟩ hK hP hD hS hA hG (c_X2_lane l g bB vB_12 x3 x1 r14 hg15) (cwV 2 htu (gU_V mw_3_157 hcX2_lane) rfl rfl rfl hdX2_lane ⟨Nat.le_of_ble_eq_true rfl, Nat.le_of_ble_eq_true rfl⟩) (q0 := 29) (ci := 2) (fs := fcL bB vB_12) (q := (RX2, TX2, 2)) rfl rfl rfl (wr := (cF g bF qF0 (bS 0) qF2 qF3 (bRT 0) vF_7 ++ (cS g bS (bC 0) (bT 0) ++ (cC g bC vC ++ (cT g bT vT ++ (cR g bRT nRT (bG 0) (bB 0) vRT_8 ++ (cL g bG vG_9))))))) (w2 := cF g bF qF0 (bS 0) qF2 qF3 (bRT 0) vF_7 ++ (cS g bS (bC 0) (bT 0) ++ (cC g bC vC ++ (cT g bT vT ++ (cR g bRT nRT (bG 0) (bB 0) vRT_8 ++ (cL g bG vG_9 ++ (cL g bB vB_12))))))) [29, 30, 31] [0, 1, 2, 3, 4, 5, 6, 7, 8, 9, 10, 11, 12, 13, 14, 15, 16, 17, 18, 19, 20, 21, 22, 23, 24, 25, 26, 27, 28] [0, 1, 2, 3, 4, 5, 6, 7, 8, 9, 10, 11, 12, 13, 14, 15, 16, 17, 18, 19, 20, 21, 22, 23, 24, 25, 26, 27, 28, 29, 30, 31] rfl rfl (by decide) (by decide) (by decide) rfl rfl (by decide) (As := [.int x3, .int x1]) (rest := []) rfl rfl hl.1 (Nat.le_of_ble_eq_true rfl) dX7_faulty_53 (k1 := 0) (n1 := 0) rfl rfl ⟨Nat.zero_le _, Nat.zero_le _⟩ (fun H locs hP hD hS => ?_)
    exact absurd (kp_6 hf).1.symm hek
  rw [hH, hlo] at hW
  exact hW
def f_X7_finds (vF : Vs) (vC : Vs) (vT : Vs) (nRT : Nat) (vRT : Vs) (vG : Vs) (vB : Vs) (x1 : Int32) (x2 : Int32) : Option (Nat × Int32 × Vs × Vs × Vs × Vs) :=
  o1 (f_X7_checkTest vF vT x1) (fun (c1 : Nat) => if c1 = 0 then (o1 (f_X7_checkFault vF vC x2) (fun (c3 : Nat) => if c3 = 0 then (o4 (f_X7_refreshTestRows vF vC vT nRT vRT vG vB) (fun (vF_5 : Vs) (vRT_6 : Vs) (vG_7 : Vs) (vB_8 : Vs) => o1 (f_X3_apart nRT vRT_6 vC (-1 : Int32) x2 (0 : Int32)) (fun (r10 : Int64) => o1 (f_X7_hasLane r10 x1) (fun (r12 : Int32) => if r12 = 0 then o1 (f_X3_blurred nRT vRT_6 vC x2 (0 : Int32)) (fun (r15 : Int64) => o1 (f_X7_hasLane r15 x1) (fun (r17 : Int32) => jn (fun (t19 : Int32) => some (0, t19, vF_5, vRT_6, vG_7, vB_8)) (fun k20 => if r17 = 0 then k20 (0 : Int32) else k20 (1 : Int32)))) else some (0, (2 : Int32), vF_5, vRT_6, vG_7, vB_8))))) else some (c3, (0 : Int32), vF, vRT, vG, vB))) else some (c1, (0 : Int32), vF, vRT, vG, vB))
abbrev wsX7_finds : List Cond := .code yX7_finds cX7_finds 3 (some .int) :: UW
abbrev rmX7_finds : Room := { frames := 4, cells := 0, slots := 0, locals := 104 }
set_option maxHeartbeats 4000000 in
set_option maxRecDepth 100000 in
theorem c_X7_finds (l : Launch) (g : Gx) (bF : Nat → Nat) (qF0 : Nat) (qF2 : Nat) (qF3 : Nat) (vF : Vs) (bS : Nat → Nat) (bC : Nat → Nat) (vC : Vs) (bT : Nat → Nat) (vT : Vs) (bRT : Nat → Nat) (nRT : Nat) (vRT : Vs) (bG : Nat → Nat) (vG : Vs) (bB : Nat → Nat) (vB : Vs) (x1 : Int32) (x2 : Int32) (r : Int32) (vF1 : Vs) (vRT1 : Vs) (vG1 : Vs) (vB1 : Vs) (hf : f_X7_finds vF vC vT nRT vRT vG vB x1 x2 = some (0, r, vF1, vRT1, vG1, vB1)) : CtI l yX7_finds wsX7_finds rmX7_finds g [.ref (bF 0), .int x1, .int x2] (cF g bF qF0 (bS 0) qF2 qF3 (bRT 0) vF ++ (cS g bS (bC 0) (bT 0) ++ (cC g bC vC ++ (cT g bT vT ++ (cR g bRT nRT (bG 0) (bB 0) vRT ++ (cL g bG vG ++ (cL g bB vB))))))) (cF g bF qF0 (bS 0) qF2 qF3 (bRT 0) vF1 ++ (cS g bS (bC 0) (bT 0) ++ (cC g bC vC ++ (cT g bT vT ++ (cR g bRT nRT (bG 0) (bB 0) vRT1 ++ (cL g bG vG1 ++ (cL g bB vB1))))))) r 0 0 := by
  unfold CtI
  intro sz
  refine Met.ofW (cc := cX7_finds) (maxL := 3) (ret := (some .int)) (by decide) rfl ?_
  intro p e s m args below meth c s₁ B hml hv
  obtain ⟨rfl, hsz, hP, hK, hD0, hG⟩ := hv
  have hx := B.exec
  have hb := B.bytes
  have hr := B.returns
  have hts := atoms_spec (ws := wsX7_finds) B.pre
  have hown : s.vm.findClass RX7 = some m.cls := findClass_of_methodNamed B.named
  have hlocks := B.notSynchronized
  subst hsz
  have hD := hD0.self (sz := s.heap.size)
  generalize hAe : va_A (cF g bF qF0 (bS 0) qF2 qF3 (bRT 0) vF ++ (cS g bS (bC 0) (bT 0) ++ (cC g bC vC ++ (cT g bT vT ++ (cR g bRT nRT (bG 0) (bB 0) vRT ++ (cL g bG vG ++ (cL g bB vB))))))) s.heap.size = A at hD hG ⊢
  have hA : ∀ q : Nat, s.heap.size ≤ q → A q := fun q h => by rw [← hAe]; exact Or.inr h
  clear hAe hD0
  have hS : va_S A s.heap s.heap [] := va_S.rf
  have hl := lv_entry ([.ref (bF 0), .int x1, .int x2]) (n := 3) (Nat.le_of_ble_eq_true rfl)
  rw [lg_entry_eq]
  generalize (lg_sl ([.ref (bF 0), .int x1, .int x2]) ++ List.replicate (3 - (lg_sl ([.ref (bF 0), .int x1, .int x2])).length) Slot.unset).toArray = ls at hl ⊢
  have hl : lv_has ls 3 [(0, .ref (bF 0)), (1, .int x1), (2, .int x2)] := hl
  have htu : ∀ w ∈ UW, w.before _ s = true := fun w h => hts w (List.mem_cons_of_mem _ h)
  have k_2_22 := htu _ mw_2_22
  have k_2_19 := htu _ mw_2_19
  have k_1_150 := htu _ mw_1_150
  unfold f_X7_finds at hf
  obtain ⟨H, hH⟩ : ∃ z, z = s.heap := ⟨_, rfl⟩
  obtain ⟨locs, hlo⟩ : ∃ z : List Loc, z = [] := ⟨_, rfl⟩
  have hS : va_S A s.heap H locs := by rw [hH, hlo]; exact hS
  rw [← hH] at hP
  have hW : W p l e (headSpec wsX7_finds rmX7_finds).room s m ([.ref (bF 0), .int x1, .int x2] : List Value).toArray below meth c H locs 0 0 (MQ below (qI g A (cF g bF qF0 (bS 0) qF2 qF3 (bRT 0) vF1 ++ (cS g bS (bC 0) (bT 0) ++ (cC g bC vC ++ (cT g bT vT ++ (cR g bRT nRT (bG 0) (bB 0) vRT1 ++ (cL g bG vG1 ++ (cL g bB vB1))))))) r) ([.ref (bF 0), .int x1, .int x2] : List Value).toArray s 0 0 A) (F0 m 0 ls []) := by
    refine lv_aload_n hx hb dX7_finds_0 rfl (lv_at hl 0 rfl) ?_
    refine lv_iload_n hx hb dX7_finds_1 rfl (lv_at hl 1 rfl) ?_
    obtain ⟨c1, hg2, hf⟩ := o1_at hf
    have hc1 : c1 = 0 := Classical.byContradiction (fun h9 => h9 (kp_6 (it_f hf h9)).1)
    have hf := it_t hf hc1
    rw [hc1] at hg2
    refine k_vvP ⟨hx, hb, hml, hown, htu⟩ hK hP hD hS hA hG (c_X7_checkTest l g bF qF0 qF2 qF3 (bRT 0) vF bS (bC 0) bT vT x1 hg2) (cwV 1 htu (gU_V mw_4_157 hcX7_checkTest) rfl rfl rfl hdX7_checkTest ⟨Nat.le_of_ble_eq_true rfl, Nat.le_of_ble_eq_true rfl⟩) (q0 := 0) (ci := 7) (fs := fcF bF qF0 (bS 0) qF2 qF3 (bRT 0) vF) (q := (RX7, TX7, 12)) rfl rfl rfl (wr := (cC g bC vC ++ (cR g bRT nRT (bG 0) (bB 0) vRT ++ (cL g bG vG ++ (cL g bB vB))))) (w2 := cF g bF qF0 (bS 0) qF2 qF3 (bRT 0) vF ++ (cS g bS (bC 0) (bT 0) ++ (cC g bC vC ++ (cT g bT vT ++ (cR g bRT nRT (bG 0) (bB 0) vRT ++ (cL g bG vG ++ (cL g bB vB))))))) [0, 1, 2, 3, 4, 5, 6, 18, 19, 20, 21, 22] [7, 8, 9, 10, 11, 12, 13, 14, 15, 16, 17, 23, 24, 25, 26, 27, 28, 29, 30, 31] [20, 21, 22, 23, 24, 25, 26, 0, 1, 2, 3, 4, 5, 6, 7, 8, 9, 10, 27, 28, 29, 30, 31, 11, 12, 13, 14, 15, 16, 17, 18, 19] rfl rfl (by decide) (by decide) (by decide) rfl rfl (by decide) (As := [.int x1]) (rest := []) rfl rfl hl.1 (Nat.le_of_ble_eq_true rfl) dX7_finds_2 (k1 := 0) (n1 := 0) rfl rfl ⟨Nat.zero_le _, Nat.zero_le _⟩ (fun H locs hP hD hS => ?_)
    refine lv_aload_n hx hb dX7_finds_5 rfl (lv_at hl 0 rfl) ?_
    refine lv_iload_n hx hb dX7_finds_6 rfl (lv_at hl 2 rfl) ?_
    obtain ⟨c3, hg4, hf⟩ := o1_at hf
    have hc3 : c3 = 0 := Classical.byContradiction (fun h9 => h9 (kp_6 (it_f hf h9)).1)
    have hf := it_t hf hc3
    rw [hc3] at hg4
    refine k_vvP ⟨hx, hb, hml, hown, htu⟩ hK hP hD hS hA hG (c_X7_checkFault l g bF qF0 qF2 qF3 (bRT 0) vF bS (bT 0) bC vC x2 hg4) (cwV 1 htu (gU_V mw_4_169 hcX7_checkFault) rfl rfl rfl hdX7_checkFault ⟨Nat.le_of_ble_eq_true rfl, Nat.le_of_ble_eq_true rfl⟩) (q0 := 0) (ci := 7) (fs := fcF bF qF0 (bS 0) qF2 qF3 (bRT 0) vF) (q := (RX7, TX7, 12)) rfl rfl rfl (wr := (cT g bT vT ++ (cR g bRT nRT (bG 0) (bB 0) vRT ++ (cL g bG vG ++ (cL g bB vB))))) (w2 := cF g bF qF0 (bS 0) qF2 qF3 (bRT 0) vF ++ (cS g bS (bC 0) (bT 0) ++ (cC g bC vC ++ (cT g bT vT ++ (cR g bRT nRT (bG 0) (bB 0) vRT ++ (cL g bG vG ++ (cL g bB vB))))))) [0, 1, 2, 3, 4, 5, 6, 7, 8, 9, 10, 11, 12, 13, 14, 15, 16, 17] [18, 19, 20, 21, 22, 23, 24, 25, 26, 27, 28, 29, 30, 31] [14, 15, 16, 17, 18, 19, 20, 21, 22, 23, 24, 25, 26, 27, 28, 29, 30, 31, 0, 1, 2, 3, 4, 5, 6, 7, 8, 9, 10, 11, 12, 13] rfl rfl (by decide) (by decide) (by decide) rfl rfl (by decide) (As := [.int x2]) (rest := []) rfl rfl hl.1 (Nat.le_of_ble_eq_true rfl) dX7_finds_7 (k1 := 0) (n1 := 0) rfl rfl ⟨Nat.zero_le _, Nat.zero_le _⟩ (fun H locs hP hD hS => ?_)
    refine lv_aload_n hx hb dX7_finds_10 rfl (lv_at hl 0 rfl) ?_
    obtain ⟨vF_5, vRT_6, vG_7, vB_8, hg9, hf⟩ := o4_at hf
    refine k_vvW ⟨hx, hb, hml, hown, htu⟩ hK hP hD hS hA hG (c_X7_refreshTestRows l g bF qF0 qF2 qF3 vF bS bC vC bT vT bRT nRT vRT bG vG bB vB vF_5 vRT_6 vG_7 vB_8 hg9) (cwV 0 htu (gU_V mw_2_157 hcX7_refreshTestRows) rfl rfl rfl hdX7_refreshTestRows ⟨Nat.le_of_ble_eq_true rfl, Nat.le_of_ble_eq_true rfl⟩) (q0 := 0) (ci := 7) (fs := fcF bF qF0 (bS 0) qF2 qF3 (bRT 0) vF) (q := (RX7, TX7, 12)) rfl rfl rfl (As := []) (rest := []) rfl rfl hl.1 (Nat.le_of_ble_eq_true rfl) dX7_finds_11 (k1 := 0) (n1 := 0) rfl rfl ⟨Nat.zero_le _, Nat.zero_le _⟩ (fun H locs hP hD hS => ?_)
    refine lv_aload_n hx hb dX7_finds_14 rfl (lv_at hl 0 rfl) ?_
    refine va_get (D := g.1) (ci := 7) (fs := fcF bF qF0 (bS 0) qF2 qF3 (bRT 0) vF_5) (v := .ref (bRT 0)) (C := RX7) (T := TX7) (N := 12) hx hb htu hinX7 hown hK hP 0 rfl rfl 4 (by decide) k_2_22 (fun _ h9 => h9) rfl dX7_finds_15 ?_
    refine lv_aload_n hx hb dX7_finds_18 rfl (lv_at hl 0 rfl) ?_
    refine va_get (D := g.1) (ci := 7) (fs := fcF bF qF0 (bS 0) qF2 qF3 (bRT 0) vF_5) (v := .ref (bS 0)) (C := RX7) (T := TX7) (N := 12) hx hb htu hinX7 hown hK hP 0 rfl rfl 1 (by decide) k_2_19 (fun _ h9 => h9) rfl dX7_finds_19 ?_
    refine va_get (D := g.1) (ci := 4) (fs := fcS bS (bC 0) (bT 0)) (v := .ref (bC 0)) (C := RX4) (T := TX4) (N := 2) hx hb htu hinX4 hown hK hP 6 rfl rfl 0 (by decide) k_1_150 (fun _ h9 => h9) rfl dX7_finds_22 ?_
    refine lv_iconst (v := (-1 : Int32)) hx hb dX7_finds_25 (by decide) ?_
    refine lv_iload_n hx hb dX7_finds_26 rfl (lv_at hl 2 rfl) ?_
    refine lv_iconst (v := (0 : Int32)) hx hb dX7_finds_27 (by decide) ?_
    obtain ⟨r10, hg11, hf⟩ := o1_at hf
    refine k_vlP ⟨hx, hb, hml, hown, htu⟩ hK hP hD hS hA hG (c_X3_apart l g bRT nRT (bG 0) (bB 0) vRT_6 bC vC (-1 : Int32) x2 (0 : Int32) r10 hg11) (cwV 4 htu (gU_V mw_2_170 hcX3_apart) rfl rfl rfl hdX3_apart ⟨Nat.le_of_ble_eq_true rfl, Nat.le_of_ble_eq_true rfl⟩) (q0 := 23) (ci := 3) (fs := fcR bRT (bG 0) (bB 0) vRT_6) (q := (RX3, TX3, 5)) rfl rfl rfl (wr := (cF g bF qF0 (bS 0) qF2 qF3 (bRT 0) vF_5 ++ (cS g bS (bC 0) (bT 0) ++ (cT g bT vT ++ (cL g bG vG_7 ++ (cL g bB vB_8)))))) (w2 := cF g bF qF0 (bS 0) qF2 qF3 (bRT 0) vF_5 ++ (cS g bS (bC 0) (bT 0) ++ (cC g bC vC ++ (cT g bT vT ++ (cR g bRT nRT (bG 0) (bB 0) vRT_6 ++ (cL g bG vG_7 ++ (cL g bB vB_8))))))) [23, 24, 25, 7, 8, 9, 10, 11, 12, 13, 14, 15, 16, 17] [0, 1, 2, 3, 4, 5, 6, 18, 19, 20, 21, 22, 26, 27, 28, 29, 30, 31] [0, 1, 2, 3, 4, 5, 6, 21, 22, 23, 24, 25, 26, 27, 28, 29, 30, 31, 7, 8, 9, 10, 11, 18, 19, 20, 12, 13, 14, 15, 16, 17] rfl rfl (by decide) (by decide) (by decide) rfl rfl (by decide) (As := [.ref (bC 0), .int (-1 : Int32), .int x2, .int (0 : Int32)]) (rest := []) rfl rfl hl.1 (Nat.le_of_ble_eq_true rfl) dX7_finds_28 (k1 := 0) (n1 := 0) rfl rfl ⟨Nat.zero_le _, Nat.zero_le _⟩ (fun H locs hP hD hS => ?_)
    refine lv_iload_n hx hb dX7_finds_31 rfl (lv_at hl 1 rfl) ?_
    obtain ⟨r12, hg13, hf⟩ := o1_at hf
    refine k_si0 ⟨hx, hb, hml, hown, htu⟩ hK hP hD hS hA hG (c_X7_hasLane l g r10 x1 r12 hg13) (va_cwS 2 htu (gU_S mw_4_182 hcX7_hasLane) rfl rfl rfl hdX7_hasLane ⟨Nat.le_of_ble_eq_true rfl, Nat.le_of_ble_eq_true rfl⟩) (As := [.long r10, .int x1]) (rest := []) rfl rfl hl.1 (Nat.le_of_ble_eq_true rfl) dX7_finds_32 (k1 := 0) (n1 := 0) rfl rfl ⟨Nat.zero_le _, Nat.zero_le _⟩ (fun H locs hP hD hS => ?_)
    refine lv_if_eq (tgt := 40) hx hb dX7_finds_35 (by decide) (fun c14 => ?_) (fun c14 => ?_)
    · have hf := it_t hf c14
      refine lv_aload_n hx hb dX7_finds_40 rfl (lv_at hl 0 rfl) ?_
      refine va_get (D := g.1) (ci := 7) (fs := fcF bF qF0 (bS 0) qF2 qF3 (bRT 0) vF_5) (v := .ref (bRT 0)) (C := RX7) (T := TX7) (N := 12) hx hb htu hinX7 hown hK hP 0 rfl rfl 4 (by decide) k_2_22 (fun _ h9 => h9) rfl dX7_finds_41 ?_
      refine lv_aload_n hx hb dX7_finds_44 rfl (lv_at hl 0 rfl) ?_
      refine va_get (D := g.1) (ci := 7) (fs := fcF bF qF0 (bS 0) qF2 qF3 (bRT 0) vF_5) (v := .ref (bS 0)) (C := RX7) (T := TX7) (N := 12) hx hb htu hinX7 hown hK hP 0 rfl rfl 1 (by decide) k_2_19 (fun _ h9 => h9) rfl dX7_finds_45 ?_
      refine va_get (D := g.1) (ci := 4) (fs := fcS bS (bC 0) (bT 0)) (v := .ref (bC 0)) (C := RX4) (T := TX4) (N := 2) hx hb htu hinX4 hown hK hP 6 rfl rfl 0 (by decide) k_1_150 (fun _ h9 => h9) rfl dX7_finds_48 ?_
      refine lv_iload_n hx hb dX7_finds_51 rfl (lv_at hl 2 rfl) ?_
      refine lv_iconst (v := (0 : Int32)) hx hb dX7_finds_52 (by decide) ?_
      obtain ⟨r15, hg16, hf⟩ := o1_at hf
      refine k_vlP ⟨hx, hb, hml, hown, htu⟩ hK hP hD hS hA hG (c_X3_blurred l g bRT nRT (bG 0) (bB 0) vRT_6 bC vC x2 (0 : Int32) r15 hg16) (cwV 3 htu (gU_V mw_4_183 hcX3_blurred) rfl rfl rfl hdX3_blurred ⟨Nat.le_of_ble_eq_true rfl, Nat.le_of_ble_eq_true rfl⟩) (q0 := 23) (ci := 3) (fs := fcR bRT (bG 0) (bB 0) vRT_6) (q := (RX3, TX3, 5)) rfl rfl rfl (wr := (cF g bF qF0 (bS 0) qF2 qF3 (bRT 0) vF_5 ++ (cS g bS (bC 0) (bT 0) ++ (cT g bT vT ++ (cL g bG vG_7 ++ (cL g bB vB_8)))))) (w2 := cF g bF qF0 (bS 0) qF2 qF3 (bRT 0) vF_5 ++ (cS g bS (bC 0) (bT 0) ++ (cC g bC vC ++ (cT g bT vT ++ (cR g bRT nRT (bG 0) (bB 0) vRT_6 ++ (cL g bG vG_7 ++ (cL g bB vB_8))))))) [23, 24, 25, 7, 8, 9, 10, 11, 12, 13, 14, 15, 16, 17] [0, 1, 2, 3, 4, 5, 6, 18, 19, 20, 21, 22, 26, 27, 28, 29, 30, 31] [0, 1, 2, 3, 4, 5, 6, 21, 22, 23, 24, 25, 26, 27, 28, 29, 30, 31, 7, 8, 9, 10, 11, 18, 19, 20, 12, 13, 14, 15, 16, 17] rfl rfl (by decide) (by decide) (by decide) rfl rfl (by decide) (As := [.ref (bC 0), .int x2, .int (0 : Int32)]) (rest := []) rfl rfl hl.1 (Nat.le_of_ble_eq_true rfl) dX7_finds_53 (k1 := 0) (n1 := 0) rfl rfl ⟨Nat.zero_le _, Nat.zero_le _⟩ (fun H locs hP hD hS => ?_)
      refine lv_iload_n hx hb dX7_finds_56 rfl (lv_at hl 1 rfl) ?_
      obtain ⟨r17, hg18, hf⟩ := o1_at hf
      refine k_si0 ⟨hx, hb, hml, hown, htu⟩ hK hP hD hS hA hG (c_X7_hasLane l g r15 x1 r17 hg18) (va_cwS 2 htu (gU_S mw_4_182 hcX7_hasLane) rfl rfl rfl hdX7_hasLane ⟨Nat.le_of_ble_eq_true rfl, Nat.le_of_ble_eq_true rfl⟩) (As := [.long r15, .int x1]) (rest := []) rfl rfl hl.1 (Nat.le_of_ble_eq_true rfl) dX7_finds_57 (k1 := 0) (n1 := 0) rfl rfl ⟨Nat.zero_le _, Nat.zero_le _⟩ (fun H locs hP hD hS => ?_)
      obtain ⟨k20, hk28, hf⟩ := jn_at hf
      have hJ21 : ∀ (t19 : Int32), k20 t19 = some (0, r, vF1, vRT1, vG1, vB1) → ∀ (H : Heap) (locs : List Loc), va_P g.1 vwCl (cF g bF qF0 (bS 0) qF2 qF3 (bRT 0) vF_5 ++ (cS g bS (bC 0) (bT 0) ++ (cC g bC vC ++ (cT g bT vT ++ (cR g bRT nRT (bG 0) (bB 0) vRT_6 ++ (cL g bG vG_7 ++ (cL g bB vB_8))))))) H → va_D A (cF g bF qF0 (bS 0) qF2 qF3 (bRT 0) vF_5 ++ (cS g bS (bC 0) (bT 0) ++ (cC g bC vC ++ (cT g bT vT ++ (cR g bRT nRT (bG 0) (bB 0) vRT_6 ++ (cL g bG vG_7 ++ (cL g bB vB_8))))))) → va_S A s.heap H locs → ∀ ls : Array Slot, lv_has ls 3 [] → W p l e (headSpec wsX7_finds rmX7_finds).room s m ([.ref (bF 0), .int x1, .int x2] : List Value).toArray below meth c H locs 0 0 (MQ below (qI g A (cF g bF qF0 (bS 0) qF2 qF3 (bRT 0) vF1 ++ (cS g bS (bC 0) (bT 0) ++ (cC g bC vC ++ (cT g bT vT ++ (cR g bRT nRT (bG 0) (bB 0) vRT1 ++ (cL g bG vG1 ++ (cL g bB vB1))))))) r) ([.ref (bF 0), .int x1, .int x2] : List Value).toArray s 0 0 A) (F0 m 68 ls [.int t19]) := by
        intro t19 hf H locs hP hD hS ls hl
        rw [hk28] at hf
        dsimp only at hf
        clear hk28
        obtain ⟨e22, e23, e24, e25, e26, e27⟩ := kp_6 hf
        rw [e24] at hP hD
        rw [e25] at hP hD
        rw [e26] at hP hD
        rw [e27] at hP hD
        exact k_iret hx hb hr hlocks hK hP hD hS e23 dX7_finds_68
      refine lv_if_eq (tgt := 67) hx hb dX7_finds_60 (by decide) (fun c29 => ?_) (fun c29 => ?_)
      · have hf := it_t hf c29
        refine lv_iconst (v := (0 : Int32)) hx hb dX7_finds_67 (by decide) ?_
        exact hJ21 (0 : Int32) hf H locs hP hD hS _ (lv_sub hl [] rfl)
      · have hf := it_f hf c29
        refine lv_iconst (v := (1 : Int32)) hx hb dX7_finds_63 (by decide) ?_
        refine lv_goto (tgt := 68) hx hb dX7_finds_64 (by decide) ?_
        exact hJ21 (1 : Int32) hf H locs hP hD hS _ (lv_sub hl [] rfl)
    · have hf := it_f hf c14
      refine lv_iconst (v := (2 : Int32)) hx hb dX7_finds_38 (by decide) ?_
      obtain ⟨e30, e31, e32, e33, e34, e35⟩ := kp_6 hf
      rw [e32] at hP hD
      rw [e33] at hP hD
      rw [e34] at hP hD
      rw [e35] at hP hD
      exact k_iret hx hb hr hlocks hK hP hD hS e31 dX7_finds_39
  rw [hH, hlo] at hW
  exact hW
abbrev rtX7_finds : Room := { frames := 9, cells := 1, slots := 6, locals := 141 }
set_option maxHeartbeats 4000000 in
set_option maxRecDepth 100000 in
theorem t_X7_finds (l : Launch) (hst : l.stackTraces = false) (g : Gx) (bF : Nat → Nat) (qF0 : Nat) (qF2 : Nat) (qF3 : Nat) (vF : Vs) (bS : Nat → Nat) (bC : Nat → Nat) (vC : Vs) (bT : Nat → Nat) (vT : Vs) (bRT : Nat → Nat) (nRT : Nat) (vRT : Vs) (bG : Nat → Nat) (vG : Vs) (bB : Nat → Nat) (vB : Vs) (x1 : Int32) (x2 : Int32) (r : Int32) (vF1 : Vs) (vRT1 : Vs) (vG1 : Vs) (vB1 : Vs) (ek : Nat) (hf : f_X7_finds vF vC vT nRT vRT vG vB x1 x2 = some (ek, r, vF1, vRT1, vG1, vB1)) (hek : ¬ ek = 0) : CtXI l yX7_finds wsX7_finds rtX7_finds g [.ref (bF 0), .int x1, .int x2] (cF g bF qF0 (bS 0) qF2 qF3 (bRT 0) vF ++ (cS g bS (bC 0) (bT 0) ++ (cC g bC vC ++ (cT g bT vT ++ (cR g bRT nRT (bG 0) (bB 0) vRT ++ (cL g bG vG ++ (cL g bB vB))))))) (cF g bF qF0 (bS 0) qF2 qF3 (bRT 0) vF1 ++ (cS g bS (bC 0) (bT 0) ++ (cC g bC vC ++ (cT g bT vT ++ (cR g bRT nRT (bG 0) (bB 0) vRT1 ++ (cL g bG vG1 ++ (cL g bB vB1))))))) (exN ek) 1 6 := by
  unfold CtXI
  intro sz
  refine vx_ofW (cc := cX7_finds) (maxL := 3) (ret := (some .int)) (by decide) rfl ?_
  intro p e s m args below meth c s₁ B hml hT hv
  obtain ⟨rfl, hsz, hP, hK, hD0, hG⟩ := hv
  have hx := B.exec
  have hb := B.bytes
  have hr := B.returns
  have hts := atoms_spec (ws := wsX7_finds) B.pre
  have hown : s.vm.findClass RX7 = some m.cls := findClass_of_methodNamed B.named
  have hlocks := B.notSynchronized
  subst hsz
  have hD := hD0.self (sz := s.heap.size)
  generalize hAe : va_A (cF g bF qF0 (bS 0) qF2 qF3 (bRT 0) vF ++ (cS g bS (bC 0) (bT 0) ++ (cC g bC vC ++ (cT g bT vT ++ (cR g bRT nRT (bG 0) (bB 0) vRT ++ (cL g bG vG ++ (cL g bB vB))))))) s.heap.size = A at hD hG ⊢
  have hA : ∀ q : Nat, s.heap.size ≤ q → A q := fun q h => by rw [← hAe]; exact Or.inr h
  clear hAe hD0
  have hS : va_S A s.heap s.heap [] := va_S.rf
  have hl := lv_entry ([.ref (bF 0), .int x1, .int x2]) (n := 3) (Nat.le_of_ble_eq_true rfl)
  rw [lg_entry_eq]
  generalize (lg_sl ([.ref (bF 0), .int x1, .int x2]) ++ List.replicate (3 - (lg_sl ([.ref (bF 0), .int x1, .int x2])).length) Slot.unset).toArray = ls at hl ⊢
  have hl : lv_has ls 3 [(0, .ref (bF 0)), (1, .int x1), (2, .int x2)] := hl
  have htu : ∀ w ∈ UW, w.before _ s = true := fun w h => hts w (List.mem_cons_of_mem _ h)
  have k_2_22 := htu _ mw_2_22
  have k_2_19 := htu _ mw_2_19
  have k_1_150 := htu _ mw_1_150
  unfold f_X7_finds at hf
  obtain ⟨H, hH⟩ : ∃ z, z = s.heap := ⟨_, rfl⟩
  obtain ⟨locs, hlo⟩ : ∃ z : List Loc, z = [] := ⟨_, rfl⟩
  have hS : va_S A s.heap H locs := by rw [hH, hlo]; exact hS
  rw [← hH] at hP
  have hW : W p l e (headSpec wsX7_finds rtX7_finds).room s m ([.ref (bF 0), .int x1, .int x2] : List Value).toArray below meth c H locs 0 0 (vx_MQ below (nI0 A) (xE g A (cF g bF qF0 (bS 0) qF2 qF3 (bRT 0) vF1 ++ (cS g bS (bC 0) (bT 0) ++ (cC g bC vC ++ (cT g bT vT ++ (cR g bRT nRT (bG 0) (bB 0) vRT1 ++ (cL g bG vG1 ++ (cL g bB vB1))))))) (exN ek)) ([.ref (bF 0), .int x1, .int x2] : List Value).toArray s 1 6 A) (F0 m 0 ls []) := by
    refine lv_aload_n hx hb dX7_finds_0 rfl (lv_at hl 0 rfl) ?_
    refine lv_iload_n hx hb dX7_finds_1 rfl (lv_at hl 1 rfl) ?_
    obtain ⟨c1, hg2, hf⟩ := o1_at hf
    rcases Classical.em (¬ c1 = 0) with hc1 | hc1
    · have hf := it_f hf hc1
      obtain ⟨rfl, rfl, rfl, rfl, rfl, rfl⟩ := kp_6 hf
      exact kx_vvP ⟨hx, hb, hml, hown, htu⟩ hK hP hD hS hA hG (t_X7_checkTest l hst g bF qF0 qF2 qF3 (bRT 0) vF bS (bC 0) bT vT x1 c1 hg2 hc1) (cwV 1 htu (gU_V mw_4_157 hcX7_checkTest) rfl rfl rfl hdX7_checkTest ⟨Nat.le_of_ble_eq_true rfl, Nat.le_of_ble_eq_true rfl⟩) (q0 := 0) (ci := 7) (fs := fcF bF qF0 (bS 0) qF2 qF3 (bRT 0) vF) (q := (RX7, TX7, 12)) rfl rfl rfl (wr := (cC g bC vC ++ (cR g bRT nRT (bG 0) (bB 0) vRT ++ (cL g bG vG ++ (cL g bB vB))))) (w2 := cF g bF qF0 (bS 0) qF2 qF3 (bRT 0) vF ++ (cS g bS (bC 0) (bT 0) ++ (cC g bC vC ++ (cT g bT vT ++ (cR g bRT nRT (bG 0) (bB 0) vRT ++ (cL g bG vG ++ (cL g bB vB))))))) [0, 1, 2, 3, 4, 5, 6, 18, 19, 20, 21, 22] [7, 8, 9, 10, 11, 12, 13, 14, 15, 16, 17, 23, 24, 25, 26, 27, 28, 29, 30, 31] [20, 21, 22, 23, 24, 25, 26, 0, 1, 2, 3, 4, 5, 6, 7, 8, 9, 10, 27, 28, 29, 30, 31, 11, 12, 13, 14, 15, 16, 17, 18, 19] rfl rfl (by decide) (by decide) (by decide) rfl rfl (by decide) (As := [.int x1]) (rest := []) rfl rfl hl.1 (Nat.le_of_ble_eq_true rfl) dX7_finds_2 ⟨Nat.le_refl _, Nat.le_refl _⟩ ⟨Nat.le_refl _, Nat.le_refl _⟩ hT hlocks
    have hc1 := Classical.not_not.mp hc1
    have hf := it_t hf hc1
    rw [hc1] at hg2
    refine k_vvP ⟨hx, hb, hml, hown, htu⟩ hK hP hD hS hA hG (c_X7_checkTest l g bF qF0 qF2 qF3 (bRT 0) vF bS (bC 0) bT vT x1 hg2) (cwV 1 htu (gU_V mw_4_157 hcX7_checkTest) rfl rfl rfl hdX7_checkTest ⟨Nat.le_of_ble_eq_true rfl, Nat.le_of_ble_eq_true rfl⟩) (q0 := 0) (ci := 7) (fs := fcF bF qF0 (bS 0) qF2 qF3 (bRT 0) vF) (q := (RX7, TX7, 12)) rfl rfl rfl (wr := (cC g bC vC ++ (cR g bRT nRT (bG 0) (bB 0) vRT ++ (cL g bG vG ++ (cL g bB vB))))) (w2 := cF g bF qF0 (bS 0) qF2 qF3 (bRT 0) vF ++ (cS g bS (bC 0) (bT 0) ++ (cC g bC vC ++ (cT g bT vT ++ (cR g bRT nRT (bG 0) (bB 0) vRT ++ (cL g bG vG ++ (cL g bB vB))))))) [0, 1, 2, 3, 4, 5, 6, 18, 19, 20, 21, 22] [7, 8, 9, 10, 11, 12, 13, 14, 15, 16, 17, 23, 24, 25, 26, 27, 28, 29, 30, 31] [20, 21, 22, 23, 24, 25, 26, 0, 1, 2, 3, 4, 5, 6, 7, 8, 9, 10, 27, 28, 29, 30, 31, 11, 12, 13, 14, 15, 16, 17, 18, 19] rfl rfl (by decide) (by decide) (by decide) rfl rfl (by decide) (As := [.int x1]) (rest := []) rfl rfl hl.1 (Nat.le_of_ble_eq_true rfl) dX7_finds_2 (k1 := 0) (n1 := 0) rfl rfl ⟨Nat.zero_le _, Nat.zero_le _⟩ (fun H locs hP hD hS => ?_)
    refine lv_aload_n hx hb dX7_finds_5 rfl (lv_at hl 0 rfl) ?_
    refine lv_iload_n hx hb dX7_finds_6 rfl (lv_at hl 2 rfl) ?_
    obtain ⟨c3, hg4, hf⟩ := o1_at hf
    rcases Classical.em (¬ c3 = 0) with hc3 | hc3
    · have hf := it_f hf hc3
      obtain ⟨rfl, rfl, rfl, rfl, rfl, rfl⟩ := kp_6 hf
      exact kx_vvP ⟨hx, hb, hml, hown, htu⟩ hK hP hD hS hA hG (t_X7_checkFault l hst g bF qF0 qF2 qF3 (bRT 0) vF bS (bT 0) bC vC x2 c3 hg4 hc3) (cwV 1 htu (gU_V mw_4_169 hcX7_checkFault) rfl rfl rfl hdX7_checkFault ⟨Nat.le_of_ble_eq_true rfl, Nat.le_of_ble_eq_true rfl⟩) (q0 := 0) (ci := 7) (fs := fcF bF qF0 (bS 0) qF2 qF3 (bRT 0) vF) (q := (RX7, TX7, 12)) rfl rfl rfl (wr := (cT g bT vT ++ (cR g bRT nRT (bG 0) (bB 0) vRT ++ (cL g bG vG ++ (cL g bB vB))))) (w2 := cF g bF qF0 (bS 0) qF2 qF3 (bRT 0) vF ++ (cS g bS (bC 0) (bT 0) ++ (cC g bC vC ++ (cT g bT vT ++ (cR g bRT nRT (bG 0) (bB 0) vRT ++ (cL g bG vG ++ (cL g bB vB))))))) [0, 1, 2, 3, 4, 5, 6, 7, 8, 9, 10, 11, 12, 13, 14, 15, 16, 17] [18, 19, 20, 21, 22, 23, 24, 25, 26, 27, 28, 29, 30, 31] [14, 15, 16, 17, 18, 19, 20, 21, 22, 23, 24, 25, 26, 27, 28, 29, 30, 31, 0, 1, 2, 3, 4, 5, 6, 7, 8, 9, 10, 11, 12, 13] rfl rfl (by decide) (by decide) (by decide) rfl rfl (by decide) (As := [.int x2]) (rest := []) rfl rfl hl.1 (Nat.le_of_ble_eq_true rfl) dX7_finds_7 ⟨Nat.le_refl _, Nat.le_refl _⟩ ⟨Nat.le_refl _, Nat.le_refl _⟩ hT hlocks
    have hc3 := Classical.not_not.mp hc3
    have hf := it_t hf hc3
    rw [hc3] at hg4
    refine k_vvP ⟨hx, hb, hml, hown, htu⟩ hK hP hD hS hA hG (c_X7_checkFault l g bF qF0 qF2 qF3 (bRT 0) vF bS (bT 0) bC vC x2 hg4) (cwV 1 htu (gU_V mw_4_169 hcX7_checkFault) rfl rfl rfl hdX7_checkFault ⟨Nat.le_of_ble_eq_true rfl, Nat.le_of_ble_eq_true rfl⟩) (q0 := 0) (ci := 7) (fs := fcF bF qF0 (bS 0) qF2 qF3 (bRT 0) vF) (q := (RX7, TX7, 12)) rfl rfl rfl (wr := (cT g bT vT ++ (cR g bRT nRT (bG 0) (bB 0) vRT ++ (cL g bG vG ++ (cL g bB vB))))) (w2 := cF g bF qF0 (bS 0) qF2 qF3 (bRT 0) vF ++ (cS g bS (bC 0) (bT 0) ++ (cC g bC vC ++ (cT g bT vT ++ (cR g bRT nRT (bG 0) (bB 0) vRT ++ (cL g bG vG ++ (cL g bB vB))))))) [0, 1, 2, 3, 4, 5, 6, 7, 8, 9, 10, 11, 12, 13, 14, 15, 16, 17] [18, 19, 20, 21, 22, 23, 24, 25, 26, 27, 28, 29, 30, 31] [14, 15, 16, 17, 18, 19, 20, 21, 22, 23, 24, 25, 26, 27, 28, 29, 30, 31, 0, 1, 2, 3, 4, 5, 6, 7, 8, 9, 10, 11, 12, 13] rfl rfl (by decide) (by decide) (by decide) rfl rfl (by decide) (As := [.int x2]) (rest := []) rfl rfl hl.1 (Nat.le_of_ble_eq_true rfl) dX7_finds_7 (k1 := 0) (n1 := 0) rfl rfl ⟨Nat.zero_le _, Nat.zero_le _⟩ (fun H locs hP hD hS => ?_)
    refine lv_aload_n hx hb dX7_finds_10 rfl (lv_at hl 0 rfl) ?_
    obtain ⟨vF_5, vRT_6, vG_7, vB_8, hg9, hf⟩ := o4_at hf
    refine k_vvW ⟨hx, hb, hml, hown, htu⟩ hK hP hD hS hA hG (c_X7_refreshTestRows l g bF qF0 qF2 qF3 vF bS bC vC bT vT bRT nRT vRT bG vG bB vB vF_5 vRT_6 vG_7 vB_8 hg9) (cwV 0 htu (gU_V mw_2_157 hcX7_refreshTestRows) rfl rfl rfl hdX7_refreshTestRows ⟨Nat.le_of_ble_eq_true rfl, Nat.le_of_ble_eq_true rfl⟩) (q0 := 0) (ci := 7) (fs := fcF bF qF0 (bS 0) qF2 qF3 (bRT 0) vF) (q := (RX7, TX7, 12)) rfl rfl rfl (As := []) (rest := []) rfl rfl hl.1 (Nat.le_of_ble_eq_true rfl) dX7_finds_11 (k1 := 0) (n1 := 0) rfl rfl ⟨Nat.zero_le _, Nat.zero_le _⟩ (fun H locs hP hD hS => ?_)
    refine lv_aload_n hx hb dX7_finds_14 rfl (lv_at hl 0 rfl) ?_
    refine va_get (D := g.1) (ci := 7) (fs := fcF bF qF0 (bS 0) qF2 qF3 (bRT 0) vF_5) (v := .ref (bRT 0)) (C := RX7) (T := TX7) (N := 12) hx hb htu hinX7 hown hK hP 0 rfl rfl 4 (by decide) k_2_22 (fun _ h9 => h9) rfl dX7_finds_15 ?_
    refine lv_aload_n hx hb dX7_finds_18 rfl (lv_at hl 0 rfl) ?_
    refine va_get (D := g.1) (ci := 7) (fs := fcF bF qF0 (bS 0) qF2 qF3 (bRT 0) vF_5) (v := .ref (bS 0)) (C := RX7) (T := TX7) (N := 12) hx hb htu hinX7 hown hK hP 0 rfl rfl 1 (by decide) k_2_19 (fun _ h9 => h9) rfl dX7_finds_19 ?_
    refine va_get (D := g.1) (ci := 4) (fs := fcS bS (bC 0) (bT 0)) (v := .ref (bC 0)) (C := RX4) (T := TX4) (N := 2) hx hb htu hinX4 hown hK hP 6 rfl rfl 0 (by decide) k_1_150 (fun _ h9 => h9) rfl dX7_finds_22 ?_
    refine lv_iconst (v := (-1 : Int32)) hx hb dX7_finds_25 (by decide) ?_
    refine lv_iload_n hx hb dX7_finds_26 rfl (lv_at hl 2 rfl) ?_
    refine lv_iconst (v := (0 : Int32)) hx hb dX7_finds_27 (by decide) ?_
    obtain ⟨r10, hg11, hf⟩ := o1_at hf
    refine k_vlP ⟨hx, hb, hml, hown, htu⟩ hK hP hD hS hA hG (c_X3_apart l g bRT nRT (bG 0) (bB 0) vRT_6 bC vC (-1 : Int32) x2 (0 : Int32) r10 hg11) (cwV 4 htu (gU_V mw_2_170 hcX3_apart) rfl rfl rfl hdX3_apart ⟨Nat.le_of_ble_eq_true rfl, Nat.le_of_ble_eq_true rfl⟩) (q0 := 23) (ci := 3) (fs := fcR bRT (bG 0) (bB 0) vRT_6) (q := (RX3, TX3, 5)) rfl rfl rfl (wr := (cF g bF qF0 (bS 0) qF2 qF3 (bRT 0) vF_5 ++ (cS g bS (bC 0) (bT 0) ++ (cT g bT vT ++ (cL g bG vG_7 ++ (cL g bB vB_8)))))) (w2 := cF g bF qF0 (bS 0) qF2 qF3 (bRT 0) vF_5 ++ (cS g bS (bC 0) (bT 0) ++ (cC g bC vC ++ (cT g bT vT ++ (cR g bRT nRT (bG 0) (bB 0) vRT_6 ++ (cL g bG vG_7 ++ (cL g bB vB_8))))))) [23, 24, 25, 7, 8, 9, 10, 11, 12, 13, 14, 15, 16, 17] [0, 1, 2, 3, 4, 5, 6, 18, 19, 20, 21, 22, 26, 27, 28, 29, 30, 31] [0, 1, 2, 3, 4, 5, 6, 21, 22, 23, 24, 25, 26, 27, 28, 29, 30, 31, 7, 8, 9, 10, 11, 18, 19, 20, 12, 13, 14, 15, 16, 17] rfl rfl (by decide) (by decide) (by decide) rfl rfl (by decide) (As := [.ref (bC 0), .int (-1 : Int32), .int x2, .int (0 : Int32)]) (rest := []) rfl rfl hl.1 (Nat.le_of_ble_eq_true rfl) dX7_finds_28 (k1 := 0) (n1 := 0) rfl rfl ⟨Nat.zero_le _, Nat.zero_le _⟩ (fun H locs hP hD hS => ?_)
    refine lv_iload_n hx hb dX7_finds_31 rfl (lv_at hl 1 rfl) ?_
    obtain ⟨r12, hg13, hf⟩ := o1_at hf
    refine k_si0 ⟨hx, hb, hml, hown, htu⟩ hK hP hD hS hA hG (c_X7_hasLane l g r10 x1 r12 hg13) (va_cwS 2 htu (gU_S mw_4_182 hcX7_hasLane) rfl rfl rfl hdX7_hasLane ⟨Nat.le_of_ble_eq_true rfl, Nat.le_of_ble_eq_true rfl⟩) (As := [.long r10, .int x1]) (rest := []) rfl rfl hl.1 (Nat.le_of_ble_eq_true rfl) dX7_finds_32 (k1 := 0) (n1 := 0) rfl rfl ⟨Nat.zero_le _, Nat.zero_le _⟩ (fun H locs hP hD hS => ?_)
    refine lv_if_eq (tgt := 40) hx hb dX7_finds_35 (by decide) (fun c14 => ?_) (fun c14 => ?_)
    · have hf := it_t hf c14
      refine lv_aload_n hx hb dX7_finds_40 rfl (lv_at hl 0 rfl) ?_
      refine va_get (D := g.1) (ci := 7) (fs := fcF bF qF0 (bS 0) qF2 qF3 (bRT 0) vF_5) (v := .ref (bRT 0)) (C := RX7) (T := TX7) (N := 12) hx hb htu hinX7 hown hK hP 0 rfl rfl 4 (by decide) k_2_22 (fun _ h9 => h9) rfl dX7_finds_41 ?_
      refine lv_aload_n hx hb dX7_finds_44 rfl (lv_at hl 0 rfl) ?_
      refine va_get (D := g.1) (ci := 7) (fs := fcF bF qF0 (bS 0) qF2 qF3 (bRT 0) vF_5) (v := .ref (bS 0)) (C := RX7) (T := TX7) (N := 12) hx hb htu hinX7 hown hK hP 0 rfl rfl 1 (by decide) k_2_19 (fun _ h9 => h9) rfl dX7_finds_45 ?_
      refine va_get (D := g.1) (ci := 4) (fs := fcS bS (bC 0) (bT 0)) (v := .ref (bC 0)) (C := RX4) (T := TX4) (N := 2) hx hb htu hinX4 hown hK hP 6 rfl rfl 0 (by decide) k_1_150 (fun _ h9 => h9) rfl dX7_finds_48 ?_
      refine lv_iload_n hx hb dX7_finds_51 rfl (lv_at hl 2 rfl) ?_
      refine lv_iconst (v := (0 : Int32)) hx hb dX7_finds_52 (by decide) ?_
      obtain ⟨r15, hg16, hf⟩ := o1_at hf
      refine k_vlP ⟨hx, hb, hml, hown, htu⟩ hK hP hD hS hA hG (c_X3_blurred l g bRT nRT (bG 0) (bB 0) vRT_6 bC vC x2 (0 : Int32) r15 hg16) (cwV 3 htu (gU_V mw_4_183 hcX3_blurred) rfl rfl rfl hdX3_blurred ⟨Nat.le_of_ble_eq_true rfl, Nat.le_of_ble_eq_true rfl⟩) (q0 := 23) (ci := 3) (fs := fcR bRT (bG 0) (bB 0) vRT_6) (q := (RX3, TX3, 5)) rfl rfl rfl (wr := (cF g bF qF0 (bS 0) qF2 qF3 (bRT 0) vF_5 ++ (cS g bS (bC 0) (bT 0) ++ (cT g bT vT ++ (cL g bG vG_7 ++ (cL g bB vB_8)))))) (w2 := cF g bF qF0 (bS 0) qF2 qF3 (bRT 0) vF_5 ++ (cS g bS (bC 0) (bT 0) ++ (cC g bC vC ++ (cT g bT vT ++ (cR g bRT nRT (bG 0) (bB 0) vRT_6 ++ (cL g bG vG_7 ++ (cL g bB vB_8))))))) [23, 24, 25, 7, 8, 9, 10, 11, 12, 13, 14, 15, 16, 17] [0, 1, 2, 3, 4, 5, 6, 18, 19, 20, 21, 22, 26, 27, 28, 29, 30, 31] [0, 1, 2, 3, 4, 5, 6, 21, 22, 23, 24, 25, 26, 27, 28, 29, 30, 31, 7, 8, 9, 10, 11, 18, 19, 20, 12, 13, 14, 15, 16, 17] rfl rfl (by decide) (by decide) (by decide) rfl rfl (by decide) (As := [.ref (bC 0), .int x2, .int (0 : Int32)]) (rest := []) rfl rfl hl.1 (Nat.le_of_ble_eq_true rfl) dX7_finds_53 (k1 := 0) (n1 := 0) rfl rfl ⟨Nat.zero_le _, Nat.zero_le _⟩ (fun H locs hP hD hS => ?_)
      refine lv_iload_n hx hb dX7_finds_56 rfl (lv_at hl 1 rfl) ?_
      obtain ⟨r17, hg18, hf⟩ := o1_at hf
      refine k_si0 ⟨hx, hb, hml, hown, htu⟩ hK hP hD hS hA hG (c_X7_hasLane l g r15 x1 r17 hg18) (va_cwS 2 htu (gU_S mw_4_182 hcX7_hasLane) rfl rfl rfl hdX7_hasLane ⟨Nat.le_of_ble_eq_true rfl, Nat.le_of_ble_eq_true rfl⟩) (As := [.long r15, .int x1]) (rest := []) rfl rfl hl.1 (Nat.le_of_ble_eq_true rfl) dX7_finds_57 (k1 := 0) (n1 := 0) rfl rfl ⟨Nat.zero_le _, Nat.zero_le _⟩ (fun H locs hP hD hS => ?_)
      obtain ⟨k20, hk28, hf⟩ := jn_at hf
      have hJ21 : ∀ (t19 : Int32), k20 t19 = some (ek, r, vF1, vRT1, vG1, vB1) → ∀ (H : Heap) (locs : List Loc), va_P g.1 vwCl (cF g bF qF0 (bS 0) qF2 qF3 (bRT 0) vF_5 ++ (cS g bS (bC 0) (bT 0) ++ (cC g bC vC ++ (cT g bT vT ++ (cR g bRT nRT (bG 0) (bB 0) vRT_6 ++ (cL g bG vG_7 ++ (cL g bB vB_8))))))) H → va_D A (cF g bF qF0 (bS 0) qF2 qF3 (bRT 0) vF_5 ++ (cS g bS (bC 0) (bT 0) ++ (cC g bC vC ++ (cT g bT vT ++ (cR g bRT nRT (bG 0) (bB 0) vRT_6 ++ (cL g bG vG_7 ++ (cL g bB vB_8))))))) → va_S A s.heap H locs → ∀ ls : Array Slot, lv_has ls 3 [] → W p l e (headSpec wsX7_finds rtX7_finds).room s m ([.ref (bF 0), .int x1, .int x2] : List Value).toArray below meth c H locs 0 0 (vx_MQ below (nI0 A) (xE g A (cF g bF qF0 (bS 0) qF2 qF3 (bRT 0) vF1 ++ (cS g bS (bC 0) (bT 0) ++ (cC g bC vC ++ (cT g bT vT ++ (cR g bRT nRT (bG 0) (bB 0) vRT1 ++ (cL g bG vG1 ++ (cL g bB vB1))))))) (exN ek)) ([.ref (bF 0), .int x1, .int x2] : List Value).toArray s 1 6 A) (F0 m 68 ls [.int t19]) := by
        intro t19 hf H locs hP hD hS ls hl
        rw [hk28] at hf
        dsimp only at hf
        clear hk28
        exact absurd (kp_6 hf).1.symm hek
      refine lv_if_eq (tgt := 67) hx hb dX7_finds_60 (by decide) (fun c29 => ?_) (fun c29 => ?_)
      · have hf := it_t hf c29
        refine lv_iconst (v := (0 : Int32)) hx hb dX7_finds_67 (by decide) ?_
        exact hJ21 (0 : Int32) hf H locs hP hD hS _ (lv_sub hl [] rfl)
      · have hf := it_f hf c29
        refine lv_iconst (v := (1 : Int32)) hx hb dX7_finds_63 (by decide) ?_
        refine lv_goto (tgt := 68) hx hb dX7_finds_64 (by decide) ?_
        exact hJ21 (1 : Int32) hf H locs hP hD hS _ (lv_sub hl [] rfl)
    · have hf := it_f hf c14
      refine lv_iconst (v := (2 : Int32)) hx hb dX7_finds_38 (by decide) ?_
      exact absurd (kp_6 hf).1.symm hek
  rw [hH, hlo] at hW
  exact hW
def f_X7_tellsApart (vF : Vs) (vC : Vs) (vT : Vs) (nRT : Nat) (vRT : Vs) (vG : Vs) (vB : Vs) (x1 : Int32) (x2 : Int32) (x3 : Int32) : Option (Nat × Int32 × Vs × Vs × Vs × Vs) :=
  o1 (f_X7_checkTest vF vT x1) (fun (c1 : Nat) => if c1 = 0 then (o1 (f_X7_checkFault vF vC x2) (fun (c3 : Nat) => if c3 = 0 then (o1 (f_X7_checkFault vF vC x3) (fun (c5 : Nat) => if c5 = 0 then (o4 (f_X7_refreshTestRows vF vC vT nRT vRT vG vB) (fun (vF_7 : Vs) (vRT_8 : Vs) (vG_9 : Vs) (vB_10 : Vs) => o1 (f_X3_apart nRT vRT_8 vC x2 x3 (0 : Int32)) (fun (r12 : Int64) => o1 (f_X7_hasLane r12 x1) (fun (r14 : Int32) => gd (isB r14) (some (0, r14, vF_7, vRT_8, vG_9, vB_10)))))) else some (c5, (0 : Int32), vF, vRT, vG, vB))) else some (c3, (0 : Int32), vF, vRT, vG, vB))) else some (c1, (0 : Int32), vF, vRT, vG, vB))
abbrev wsX7_tellsApart : List Cond := .code yX7_tellsApart cX7_tellsApart 4 (some .boolean) :: UW
abbrev rmX7_tellsApart : Room := { frames := 4, cells := 0, slots := 0, locals := 104 }
set_option maxHeartbeats 4000000 in
set_option maxRecDepth 100000 in
theorem c_X7_tellsApart (l : Launch) (g : Gx) (bF : Nat → Nat) (qF0 : Nat) (qF2 : Nat) (qF3 : Nat) (vF : Vs) (bS : Nat → Nat) (bC : Nat → Nat) (vC : Vs) (bT : Nat → Nat) (vT : Vs) (bRT : Nat → Nat) (nRT : Nat) (vRT : Vs) (bG : Nat → Nat) (vG : Vs) (bB : Nat → Nat) (vB : Vs) (x1 : Int32) (x2 : Int32) (x3 : Int32) (r : Int32) (vF1 : Vs) (vRT1 : Vs) (vG1 : Vs) (vB1 : Vs) (hf : f_X7_tellsApart vF vC vT nRT vRT vG vB x1 x2 x3 = some (0, r, vF1, vRT1, vG1, vB1)) : CtI l yX7_tellsApart wsX7_tellsApart rmX7_tellsApart g [.ref (bF 0), .int x1, .int x2, .int x3] (cF g bF qF0 (bS 0) qF2 qF3 (bRT 0) vF ++ (cS g bS (bC 0) (bT 0) ++ (cC g bC vC ++ (cT g bT vT ++ (cR g bRT nRT (bG 0) (bB 0) vRT ++ (cL g bG vG ++ (cL g bB vB))))))) (cF g bF qF0 (bS 0) qF2 qF3 (bRT 0) vF1 ++ (cS g bS (bC 0) (bT 0) ++ (cC g bC vC ++ (cT g bT vT ++ (cR g bRT nRT (bG 0) (bB 0) vRT1 ++ (cL g bG vG1 ++ (cL g bB vB1))))))) r 0 0 := by
  unfold CtI
  intro sz
  refine Met.ofW (cc := cX7_tellsApart) (maxL := 4) (ret := (some .boolean)) (by decide) rfl ?_
  intro p e s m args below meth c s₁ B hml hv
  obtain ⟨rfl, hsz, hP, hK, hD0, hG⟩ := hv
  have hx := B.exec
  have hb := B.bytes
  have hr := B.returns
  have hts := atoms_spec (ws := wsX7_tellsApart) B.pre
  have hown : s.vm.findClass RX7 = some m.cls := findClass_of_methodNamed B.named
  have hlocks := B.notSynchronized
  subst hsz
  have hD := hD0.self (sz := s.heap.size)
  generalize hAe : va_A (cF g bF qF0 (bS 0) qF2 qF3 (bRT 0) vF ++ (cS g bS (bC 0) (bT 0) ++ (cC g bC vC ++ (cT g bT vT ++ (cR g bRT nRT (bG 0) (bB 0) vRT ++ (cL g bG vG ++ (cL g bB vB))))))) s.heap.size = A at hD hG ⊢
  have hA : ∀ q : Nat, s.heap.size ≤ q → A q := fun q h => by rw [← hAe]; exact Or.inr h
  clear hAe hD0
  have hS : va_S A s.heap s.heap [] := va_S.rf
  have hl := lv_entry ([.ref (bF 0), .int x1, .int x2, .int x3]) (n := 4) (Nat.le_of_ble_eq_true rfl)
  rw [lg_entry_eq]
  generalize (lg_sl ([.ref (bF 0), .int x1, .int x2, .int x3]) ++ List.replicate (4 - (lg_sl ([.ref (bF 0), .int x1, .int x2, .int x3])).length) Slot.unset).toArray = ls at hl ⊢
  have hl : lv_has ls 4 [(0, .ref (bF 0)), (1, .int x1), (2, .int x2), (3, .int x3)] := hl
  have htu : ∀ w ∈ UW, w.before _ s = true := fun w h => hts w (List.mem_cons_of_mem _ h)
  have k_2_22 := htu _ mw_2_22
  have k_2_19 := htu _ mw_2_19
  have k_1_150 := htu _ mw_1_150
  unfold f_X7_tellsApart at hf
  obtain ⟨H, hH⟩ : ∃ z, z = s.heap := ⟨_, rfl⟩
  obtain ⟨locs, hlo⟩ : ∃ z : List Loc, z = [] := ⟨_, rfl⟩
  have hS : va_S A s.heap H locs := by rw [hH, hlo]; exact hS
  rw [← hH] at hP
  have hW : W p l e (headSpec wsX7_tellsApart rmX7_tellsApart).room s m ([.ref (bF 0), .int x1, .int x2, .int x3] : List Value).toArray below meth c H locs 0 0 (MQ below (qI g A (cF g bF qF0 (bS 0) qF2 qF3 (bRT 0) vF1 ++ (cS g bS (bC 0) (bT 0) ++ (cC g bC vC ++ (cT g bT vT ++ (cR g bRT nRT (bG 0) (bB 0) vRT1 ++ (cL g bG vG1 ++ (cL g bB vB1))))))) r) ([.ref (bF 0), .int x1, .int x2, .int x3] : List Value).toArray s 0 0 A) (F0 m 0 ls []) := by
    refine lv_aload_n hx hb dX7_tellsApart_0 rfl (lv_at hl 0 rfl) ?_
    refine lv_iload_n hx hb dX7_tellsApart_1 rfl (lv_at hl 1 rfl) ?_
    obtain ⟨c1, hg2, hf⟩ := o1_at hf
    have hc1 : c1 = 0 := Classical.byContradiction (fun h9 => h9 (kp_6 (it_f hf h9)).1)
    have hf := it_t hf hc1
    rw [hc1] at hg2
    refine k_vvP ⟨hx, hb, hml, hown, htu⟩ hK hP hD hS hA hG (c_X7_checkTest l g bF qF0 qF2 qF3 (bRT 0) vF bS (bC 0) bT vT x1 hg2) (cwV 1 htu (gU_V mw_4_157 hcX7_checkTest) rfl rfl rfl hdX7_checkTest ⟨Nat.le_of_ble_eq_true rfl, Nat.le_of_ble_eq_true rfl⟩) (q0 := 0) (ci := 7) (fs := fcF bF qF0 (bS 0) qF2 qF3 (bRT 0) vF) (q := (RX7, TX7, 12)) rfl rfl rfl (wr := (cC g bC vC ++ (cR g bRT nRT (bG 0) (bB 0) vRT ++ (cL g bG vG ++ (cL g bB vB))))) (w2 := cF g bF qF0 (bS 0) qF2 qF3 (bRT 0) vF ++ (cS g bS (bC 0) (bT 0) ++ (cC g bC vC ++ (cT g bT vT ++ (cR g bRT nRT (bG 0) (bB 0) vRT ++ (cL g bG vG ++ (cL g bB vB))))))) [0, 1, 2, 3, 4, 5, 6, 18, 19, 20, 21, 22] [7, 8, 9, 10, 11, 12, 13, 14, 15, 16, 17, 23, 24, 25, 26, 27, 28, 29, 30, 31] [20, 21, 22, 23, 24, 25, 26, 0, 1, 2, 3, 4, 5, 6, 7, 8, 9, 10, 27, 28, 29, 30, 31, 11, 12, 13, 14, 15, 16, 17, 18, 19] rfl rfl (by decide) (by decide) (by decide) rfl rfl (by decide) (As := [.int x1]) (rest := []) rfl rfl hl.1 (Nat.le_of_ble_eq_true rfl) dX7_tellsApart_2 (k1 := 0) (n1 := 0) rfl rfl ⟨Nat.zero_le _, Nat.zero_le _⟩ (fun H locs hP hD hS => ?_)
    refine lv_aload_n hx hb dX7_tellsApart_5 rfl (lv_at hl 0 rfl) ?_
    refine lv_iload_n hx hb dX7_tellsApart_6 rfl (lv_at hl 2 rfl) ?_
    obtain ⟨c3, hg4, hf⟩ := o1_at hf
    have hc3 : c3 = 0 := Classical.byContradiction (fun h9 => h9 (kp_6 (it_f hf h9)).1)
    have hf := it_t hf hc3
    rw [hc3] at hg4
    refine k_vvP ⟨hx, hb, hml, hown, htu⟩ hK hP hD hS hA hG (c_X7_checkFault l g bF qF0 qF2 qF3 (bRT 0) vF bS (bT 0) bC vC x2 hg4) (cwV 1 htu (gU_V mw_4_169 hcX7_checkFault) rfl rfl rfl hdX7_checkFault ⟨Nat.le_of_ble_eq_true rfl, Nat.le_of_ble_eq_true rfl⟩) (q0 := 0) (ci := 7) (fs := fcF bF qF0 (bS 0) qF2 qF3 (bRT 0) vF) (q := (RX7, TX7, 12)) rfl rfl rfl (wr := (cT g bT vT ++ (cR g bRT nRT (bG 0) (bB 0) vRT ++ (cL g bG vG ++ (cL g bB vB))))) (w2 := cF g bF qF0 (bS 0) qF2 qF3 (bRT 0) vF ++ (cS g bS (bC 0) (bT 0) ++ (cC g bC vC ++ (cT g bT vT ++ (cR g bRT nRT (bG 0) (bB 0) vRT ++ (cL g bG vG ++ (cL g bB vB))))))) [0, 1, 2, 3, 4, 5, 6, 7, 8, 9, 10, 11, 12, 13, 14, 15, 16, 17] [18, 19, 20, 21, 22, 23, 24, 25, 26, 27, 28, 29, 30, 31] [14, 15, 16, 17, 18, 19, 20, 21, 22, 23, 24, 25, 26, 27, 28, 29, 30, 31, 0, 1, 2, 3, 4, 5, 6, 7, 8, 9, 10, 11, 12, 13] rfl rfl (by decide) (by decide) (by decide) rfl rfl (by decide) (As := [.int x2]) (rest := []) rfl rfl hl.1 (Nat.le_of_ble_eq_true rfl) dX7_tellsApart_7 (k1 := 0) (n1 := 0) rfl rfl ⟨Nat.zero_le _, Nat.zero_le _⟩ (fun H locs hP hD hS => ?_)
    refine lv_aload_n hx hb dX7_tellsApart_10 rfl (lv_at hl 0 rfl) ?_
    refine lv_iload_n hx hb dX7_tellsApart_11 rfl (lv_at hl 3 rfl) ?_
    obtain ⟨c5, hg6, hf⟩ := o1_at hf
    have hc5 : c5 = 0 := Classical.byContradiction (fun h9 => h9 (kp_6 (it_f hf h9)).1)
    have hf := it_t hf hc5
    rw [hc5] at hg6
    refine k_vvP ⟨hx, hb, hml, hown, htu⟩ hK hP hD hS hA hG (c_X7_checkFault l g bF qF0 qF2 qF3 (bRT 0) vF bS (bT 0) bC vC x3 hg6) (cwV 1 htu (gU_V mw_4_169 hcX7_checkFault) rfl rfl rfl hdX7_checkFault ⟨Nat.le_of_ble_eq_true rfl, Nat.le_of_ble_eq_true rfl⟩) (q0 := 0) (ci := 7) (fs := fcF bF qF0 (bS 0) qF2 qF3 (bRT 0) vF) (q := (RX7, TX7, 12)) rfl rfl rfl (wr := (cT g bT vT ++ (cR g bRT nRT (bG 0) (bB 0) vRT ++ (cL g bG vG ++ (cL g bB vB))))) (w2 := cF g bF qF0 (bS 0) qF2 qF3 (bRT 0) vF ++ (cS g bS (bC 0) (bT 0) ++ (cC g bC vC ++ (cT g bT vT ++ (cR g bRT nRT (bG 0) (bB 0) vRT ++ (cL g bG vG ++ (cL g bB vB))))))) [0, 1, 2, 3, 4, 5, 6, 7, 8, 9, 10, 11, 12, 13, 14, 15, 16, 17] [18, 19, 20, 21, 22, 23, 24, 25, 26, 27, 28, 29, 30, 31] [14, 15, 16, 17, 18, 19, 20, 21, 22, 23, 24, 25, 26, 27, 28, 29, 30, 31, 0, 1, 2, 3, 4, 5, 6, 7, 8, 9, 10, 11, 12, 13] rfl rfl (by decide) (by decide) (by decide) rfl rfl (by decide) (As := [.int x3]) (rest := []) rfl rfl hl.1 (Nat.le_of_ble_eq_true rfl) dX7_tellsApart_12 (k1 := 0) (n1 := 0) rfl rfl ⟨Nat.zero_le _, Nat.zero_le _⟩ (fun H locs hP hD hS => ?_)
    refine lv_aload_n hx hb dX7_tellsApart_15 rfl (lv_at hl 0 rfl) ?_
    obtain ⟨vF_7, vRT_8, vG_9, vB_10, hg11, hf⟩ := o4_at hf
    refine k_vvW ⟨hx, hb, hml, hown, htu⟩ hK hP hD hS hA hG (c_X7_refreshTestRows l g bF qF0 qF2 qF3 vF bS bC vC bT vT bRT nRT vRT bG vG bB vB vF_7 vRT_8 vG_9 vB_10 hg11) (cwV 0 htu (gU_V mw_2_157 hcX7_refreshTestRows) rfl rfl rfl hdX7_refreshTestRows ⟨Nat.le_of_ble_eq_true rfl, Nat.le_of_ble_eq_true rfl⟩) (q0 := 0) (ci := 7) (fs := fcF bF qF0 (bS 0) qF2 qF3 (bRT 0) vF) (q := (RX7, TX7, 12)) rfl rfl rfl (As := []) (rest := []) rfl rfl hl.1 (Nat.le_of_ble_eq_true rfl) dX7_tellsApart_16 (k1 := 0) (n1 := 0) rfl rfl ⟨Nat.zero_le _, Nat.zero_le _⟩ (fun H locs hP hD hS => ?_)
    refine lv_aload_n hx hb dX7_tellsApart_19 rfl (lv_at hl 0 rfl) ?_
    refine va_get (D := g.1) (ci := 7) (fs := fcF bF qF0 (bS 0) qF2 qF3 (bRT 0) vF_7) (v := .ref (bRT 0)) (C := RX7) (T := TX7) (N := 12) hx hb htu hinX7 hown hK hP 0 rfl rfl 4 (by decide) k_2_22 (fun _ h9 => h9) rfl dX7_tellsApart_20 ?_
    refine lv_aload_n hx hb dX7_tellsApart_23 rfl (lv_at hl 0 rfl) ?_
    refine va_get (D := g.1) (ci := 7) (fs := fcF bF qF0 (bS 0) qF2 qF3 (bRT 0) vF_7) (v := .ref (bS 0)) (C := RX7) (T := TX7) (N := 12) hx hb htu hinX7 hown hK hP 0 rfl rfl 1 (by decide) k_2_19 (fun _ h9 => h9) rfl dX7_tellsApart_24 ?_
    refine va_get (D := g.1) (ci := 4) (fs := fcS bS (bC 0) (bT 0)) (v := .ref (bC 0)) (C := RX4) (T := TX4) (N := 2) hx hb htu hinX4 hown hK hP 6 rfl rfl 0 (by decide) k_1_150 (fun _ h9 => h9) rfl dX7_tellsApart_27 ?_
    refine lv_iload_n hx hb dX7_tellsApart_30 rfl (lv_at hl 2 rfl) ?_
    refine lv_iload_n hx hb dX7_tellsApart_31 rfl (lv_at hl 3 rfl) ?_
    refine lv_iconst (v := (0 : Int32)) hx hb dX7_tellsApart_32 (by decide) ?_
    obtain ⟨r12, hg13, hf⟩ := o1_at hf
    refine k_vlP ⟨hx, hb, hml, hown, htu⟩ hK hP hD hS hA hG (c_X3_apart l g bRT nRT (bG 0) (bB 0) vRT_8 bC vC x2 x3 (0 : Int32) r12 hg13) (cwV 4 htu (gU_V mw_2_170 hcX3_apart) rfl rfl rfl hdX3_apart ⟨Nat.le_of_ble_eq_true rfl, Nat.le_of_ble_eq_true rfl⟩) (q0 := 23) (ci := 3) (fs := fcR bRT (bG 0) (bB 0) vRT_8) (q := (RX3, TX3, 5)) rfl rfl rfl (wr := (cF g bF qF0 (bS 0) qF2 qF3 (bRT 0) vF_7 ++ (cS g bS (bC 0) (bT 0) ++ (cT g bT vT ++ (cL g bG vG_9 ++ (cL g bB vB_10)))))) (w2 := cF g bF qF0 (bS 0) qF2 qF3 (bRT 0) vF_7 ++ (cS g bS (bC 0) (bT 0) ++ (cC g bC vC ++ (cT g bT vT ++ (cR g bRT nRT (bG 0) (bB 0) vRT_8 ++ (cL g bG vG_9 ++ (cL g bB vB_10))))))) [23, 24, 25, 7, 8, 9, 10, 11, 12, 13, 14, 15, 16, 17] [0, 1, 2, 3, 4, 5, 6, 18, 19, 20, 21, 22, 26, 27, 28, 29, 30, 31] [0, 1, 2, 3, 4, 5, 6, 21, 22, 23, 24, 25, 26, 27, 28, 29, 30, 31, 7, 8, 9, 10, 11, 18, 19, 20, 12, 13, 14, 15, 16, 17] rfl rfl (by decide) (by decide) (by decide) rfl rfl (by decide) (As := [.ref (bC 0), .int x2, .int x3, .int (0 : Int32)]) (rest := []) rfl rfl hl.1 (Nat.le_of_ble_eq_true rfl) dX7_tellsApart_33 (k1 := 0) (n1 := 0) rfl rfl ⟨Nat.zero_le _, Nat.zero_le _⟩ (fun H locs hP hD hS => ?_)
    refine lv_iload_n hx hb dX7_tellsApart_36 rfl (lv_at hl 1 rfl) ?_
    obtain ⟨r14, hg15, hf⟩ := o1_at hf
    refine k_si0 ⟨hx, hb, hml, hown, htu⟩ hK hP hD hS hA hG (c_X7_hasLane l g r12 x1 r14 hg15) (va_cwS 2 htu (gU_S mw_4_182 hcX7_hasLane) rfl rfl rfl hdX7_hasLane ⟨Nat.le_of_ble_eq_true rfl, Nat.le_of_ble_eq_true rfl⟩) (As := [.long r12, .int x1]) (rest := []) rfl rfl hl.1 (Nat.le_of_ble_eq_true rfl) dX7_tellsApart_37 (k1 := 0) (n1 := 0) rfl rfl ⟨Nat.zero_le _, Nat.zero_le _⟩ (fun H locs hP hD hS => ?_)
    obtain ⟨h16, hf⟩ := gd_isB hf
    obtain ⟨e17, e18, e19, e20, e21, e22⟩ := kp_6 hf
    rw [e19] at hP hD
    rw [e20] at hP hD
    rw [e21] at hP hD
    rw [e22] at hP hD
    exact k_zret hx hb hr hlocks hK hP hD hS e18 h16 dX7_tellsApart_40
  rw [hH, hlo] at hW
  exact hW
abbrev rtX7_tellsApart : Room := { frames := 9, cells := 1, slots := 6, locals := 141 }
set_option maxHeartbeats 4000000 in
set_option maxRecDepth 100000 in
theorem t_X7_tellsApart (l : Launch) (hst : l.stackTraces = false) (g : Gx) (bF : Nat → Nat) (qF0 : Nat) (qF2 : Nat) (qF3 : Nat) (vF : Vs) (bS : Nat → Nat) (bC : Nat → Nat) (vC : Vs) (bT : Nat → Nat) (vT : Vs) (bRT : Nat → Nat) (nRT : Nat) (vRT : Vs) (bG : Nat → Nat) (vG : Vs) (bB : Nat → Nat) (vB : Vs) (x1 : Int32) (x2 : Int32) (x3 : Int32) (r : Int32) (vF1 : Vs) (vRT1 : Vs) (vG1 : Vs) (vB1 : Vs) (ek : Nat) (hf : f_X7_tellsApart vF vC vT nRT vRT vG vB x1 x2 x3 = some (ek, r, vF1, vRT1, vG1, vB1)) (hek : ¬ ek = 0) : CtXI l yX7_tellsApart wsX7_tellsApart rtX7_tellsApart g [.ref (bF 0), .int x1, .int x2, .int x3] (cF g bF qF0 (bS 0) qF2 qF3 (bRT 0) vF ++ (cS g bS (bC 0) (bT 0) ++ (cC g bC vC ++ (cT g bT vT ++ (cR g bRT nRT (bG 0) (bB 0) vRT ++ (cL g bG vG ++ (cL g bB vB))))))) (cF g bF qF0 (bS 0) qF2 qF3 (bRT 0) vF1 ++ (cS g bS (bC 0) (bT 0) ++ (cC g bC vC ++ (cT g bT vT ++ (cR g bRT nRT (bG 0) (bB 0) vRT1 ++ (cL g bG vG1 ++ (cL g bB vB1))))))) (exN ek) 1 6 := by
  unfold CtXI
  intro sz
  refine vx_ofW (cc := cX7_tellsApart) (maxL := 4) (ret := (some .boolean)) (by decide) rfl ?_
  intro p e s m args below meth c s₁ B hml hT hv
  obtain ⟨rfl, hsz, hP, hK, hD0, hG⟩ := hv
  have hx := B.exec
  have hb := B.bytes
  have hr := B.returns
  have hts := atoms_spec (ws := wsX7_tellsApart) B.pre
  have hown : s.vm.findClass RX7 = some m.cls := findClass_of_methodNamed B.named
  have hlocks := B.notSynchronized
  subst hsz
  have hD := hD0.self (sz := s.heap.size)
  generalize hAe : va_A (cF g bF qF0 (bS 0) qF2 qF3 (bRT 0) vF ++ (cS g bS (bC 0) (bT 0) ++ (cC g bC vC ++ (cT g bT vT ++ (cR g bRT nRT (bG 0) (bB 0) vRT ++ (cL g bG vG ++ (cL g bB vB))))))) s.heap.size = A at hD hG ⊢
  have hA : ∀ q : Nat, s.heap.size ≤ q → A q := fun q h => by rw [← hAe]; exact Or.inr h
  clear hAe hD0
  have hS : va_S A s.heap s.heap [] := va_S.rf
  have hl := lv_entry ([.ref (bF 0), .int x1, .int x2, .int x3]) (n := 4) (Nat.le_of_ble_eq_true rfl)
  rw [lg_entry_eq]
  generalize (lg_sl ([.ref (bF 0), .int x1, .int x2, .int x3]) ++ List.replicate (4 - (lg_sl ([.ref (bF 0), .int x1, .int x2, .int x3])).length) Slot.unset).toArray = ls at hl ⊢
  have hl : lv_has ls 4 [(0, .ref (bF 0)), (1, .int x1), (2, .int x2), (3, .int x3)] := hl
  have htu : ∀ w ∈ UW, w.before _ s = true := fun w h => hts w (List.mem_cons_of_mem _ h)
  have k_2_22 := htu _ mw_2_22
  have k_2_19 := htu _ mw_2_19
  have k_1_150 := htu _ mw_1_150
  unfold f_X7_tellsApart at hf
  obtain ⟨H, hH⟩ : ∃ z, z = s.heap := ⟨_, rfl⟩
  obtain ⟨locs, hlo⟩ : ∃ z : List Loc, z = [] := ⟨_, rfl⟩
  have hS : va_S A s.heap H locs := by rw [hH, hlo]; exact hS
  rw [← hH] at hP
  have hW : W p l e (headSpec wsX7_tellsApart rtX7_tellsApart).room s m ([.ref (bF 0), .int x1, .int x2, .int x3] : List Value).toArray below meth c H locs 0 0 (vx_MQ below (nI0 A) (xE g A (cF g bF qF0 (bS 0) qF2 qF3 (bRT 0) vF1 ++ (cS g bS (bC 0) (bT 0) ++ (cC g bC vC ++ (cT g bT vT ++ (cR g bRT nRT (bG 0) (bB 0) vRT1 ++ (cL g bG vG1 ++ (cL g bB vB1))))))) (exN ek)) ([.ref (bF 0), .int x1, .int x2, .int x3] : List Value).toArray s 1 6 A) (F0 m 0 ls []) := by
    refine lv_aload_n hx hb dX7_tellsApart_0 rfl (lv_at hl 0 rfl) ?_
    refine lv_iload_n hx hb dX7_tellsApart_1 rfl (lv_at hl 1 rfl) ?_
    obtain ⟨c1, hg2, hf⟩ := o1_at hf
    rcases Classical.em (¬ c1 = 0) with hc1 | hc1
    · have hf := it_f hf hc1
      obtain ⟨rfl, rfl, rfl, rfl, rfl, rfl⟩ := kp_6 hf
      exact kx_vvP ⟨hx, hb, hml, hown, htu⟩ hK hP hD hS hA hG (t_X7_checkTest l hst g bF qF0 qF2 qF3 (bRT 0) vF bS (bC 0) bT vT x1 c1 hg2 hc1) (cwV 1 htu (gU_V mw_4_157 hcX7_checkTest) rfl rfl rfl hdX7_checkTest ⟨Nat.le_of_ble_eq_true rfl, Nat.le_of_ble_eq_true rfl⟩) (q0 := 0) (ci := 7) (fs := fcF bF qF0 (bS 0) qF2 qF3 (bRT 0) vF) (q := (RX7, TX7, 12)) rfl rfl rfl (wr := (cC g bC vC ++ (cR g bRT nRT (bG 0) (bB 0) vRT ++ (cL g bG vG ++ (cL g bB vB))))) (w2 := cF g bF qF0 (bS 0) qF2 qF3 (bRT 0) vF ++ (cS g bS (bC 0) (bT 0) ++ (cC g bC vC ++ (cT g bT vT ++ (cR g bRT nRT (bG 0) (bB 0) vRT ++ (cL g bG vG ++ (cL g bB vB))))))) [0, 1, 2, 3, 4, 5, 6, 18, 19, 20, 21, 22] [7, 8, 9, 10, 11, 12, 13, 14, 15, 16, 17, 23, 24, 25, 26, 27, 28, 29, 30, 31] [20, 21, 22, 23, 24, 25, 26, 0, 1, 2, 3, 4, 5, 6, 7, 8, 9, 10, 27, 28, 29, 30, 31, 11, 12, 13, 14, 15, 16, 17, 18, 19] rfl rfl (by decide) (by decide) (by decide) rfl rfl (by decide) (As := [.int x1]) (rest := []) rfl rfl hl.1 (Nat.le_of_ble_eq_true rfl) dX7_tellsApart_2 ⟨Nat.le_refl _, Nat.le_refl _⟩ ⟨Nat.le_refl _, Nat.le_refl _⟩ hT hlocks
    have hc1 := Classical.not_not.mp hc1
    have hf := it_t hf hc1
    rw [hc1] at hg2
    refine k_vvP ⟨hx, hb, hml, hown, htu⟩ hK hP hD hS hA hG (c_X7_checkTest l g bF qF0 qF2 qF3 (bRT 0) vF bS (bC 0) bT vT x1 hg2) (cwV 1 htu (gU_V mw_4_157 hcX7_checkTest) rfl rfl rfl hdX7_checkTest ⟨Nat.le_of_ble_eq_true rfl, Nat.le_of_ble_eq_true rfl⟩) (q0 := 0) (ci := 7) (fs := fcF bF qF0 (bS 0) qF2 qF3 (bRT 0) vF) (q := (RX7, TX7, 12)) rfl rfl rfl (wr := (cC g bC vC ++ (cR g bRT nRT (bG 0) (bB 0) vRT ++ (cL g bG vG ++ (cL g bB vB))))) (w2 := cF g bF qF0 (bS 0) qF2 qF3 (bRT 0) vF ++ (cS g bS (bC 0) (bT 0) ++ (cC g bC vC ++ (cT g bT vT ++ (cR g bRT nRT (bG 0) (bB 0) vRT ++ (cL g bG vG ++ (cL g bB vB))))))) [0, 1, 2, 3, 4, 5, 6, 18, 19, 20, 21, 22] [7, 8, 9, 10, 11, 12, 13, 14, 15, 16, 17, 23, 24, 25, 26, 27, 28, 29, 30, 31] [20, 21, 22, 23, 24, 25, 26, 0, 1, 2, 3, 4, 5, 6, 7, 8, 9, 10, 27, 28, 29, 30, 31, 11, 12, 13, 14, 15, 16, 17, 18, 19] rfl rfl (by decide) (by decide) (by decide) rfl rfl (by decide) (As := [.int x1]) (rest := []) rfl rfl hl.1 (Nat.le_of_ble_eq_true rfl) dX7_tellsApart_2 (k1 := 0) (n1 := 0) rfl rfl ⟨Nat.zero_le _, Nat.zero_le _⟩ (fun H locs hP hD hS => ?_)
    refine lv_aload_n hx hb dX7_tellsApart_5 rfl (lv_at hl 0 rfl) ?_
    refine lv_iload_n hx hb dX7_tellsApart_6 rfl (lv_at hl 2 rfl) ?_
    obtain ⟨c3, hg4, hf⟩ := o1_at hf
    rcases Classical.em (¬ c3 = 0) with hc3 | hc3
    · have hf := it_f hf hc3
      obtain ⟨rfl, rfl, rfl, rfl, rfl, rfl⟩ := kp_6 hf
      exact kx_vvP ⟨hx, hb, hml, hown, htu⟩ hK hP hD hS hA hG (t_X7_checkFault l hst g bF qF0 qF2 qF3 (bRT 0) vF bS (bT 0) bC vC x2 c3 hg4 hc3) (cwV 1 htu (gU_V mw_4_169 hcX7_checkFault) rfl rfl rfl hdX7_checkFault ⟨Nat.le_of_ble_eq_true rfl, Nat.le_of_ble_eq_true rfl⟩) (q0 := 0) (ci := 7) (fs := fcF bF qF0 (bS 0) qF2 qF3 (bRT 0) vF) (q := (RX7, TX7, 12)) rfl rfl rfl (wr := (cT g bT vT ++ (cR g bRT nRT (bG 0) (bB 0) vRT ++ (cL g bG vG ++ (cL g bB vB))))) (w2 := cF g bF qF0 (bS 0) qF2 qF3 (bRT 0) vF ++ (cS g bS (bC 0) (bT 0) ++ (cC g bC vC ++ (cT g bT vT ++ (cR g bRT nRT (bG 0) (bB 0) vRT ++ (cL g bG vG ++ (cL g bB vB))))))) [0, 1, 2, 3, 4, 5, 6, 7, 8, 9, 10, 11, 12, 13, 14, 15, 16, 17] [18, 19, 20, 21, 22, 23, 24, 25, 26, 27, 28, 29, 30, 31] [14, 15, 16, 17, 18, 19, 20, 21, 22, 23, 24, 25, 26, 27, 28, 29, 30, 31, 0, 1, 2, 3, 4, 5, 6, 7, 8, 9, 10, 11, 12, 13] rfl rfl (by decide) (by decide) (by decide) rfl rfl (by decide) (As := [.int x2]) (rest := []) rfl rfl hl.1 (Nat.le_of_ble_eq_true rfl) dX7_tellsApart_7 ⟨Nat.le_refl _, Nat.le_refl _⟩ ⟨Nat.le_refl _, Nat.le_refl _⟩ hT hlocks
    have hc3 := Classical.not_not.mp hc3
    have hf := it_t hf hc3
    rw [hc3] at hg4
    refine k_vvP ⟨hx, hb, hml, hown, htu⟩ hK hP hD hS hA hG (c_X7_checkFault l g bF qF0 qF2 qF3 (bRT 0) vF bS (bT 0) bC vC x2 hg4) (cwV 1 htu (gU_V mw_4_169 hcX7_checkFault) rfl rfl rfl hdX7_checkFault ⟨Nat.le_of_ble_eq_true rfl, Nat.le_of_ble_eq_true rfl⟩) (q0 := 0) (ci := 7) (fs := fcF bF qF0 (bS 0) qF2 qF3 (bRT 0) vF) (q := (RX7, TX7, 12)) rfl rfl rfl (wr := (cT g bT vT ++ (cR g bRT nRT (bG 0) (bB 0) vRT ++ (cL g bG vG ++ (cL g bB vB))))) (w2 := cF g bF qF0 (bS 0) qF2 qF3 (bRT 0) vF ++ (cS g bS (bC 0) (bT 0) ++ (cC g bC vC ++ (cT g bT vT ++ (cR g bRT nRT (bG 0) (bB 0) vRT ++ (cL g bG vG ++ (cL g bB vB))))))) [0, 1, 2, 3, 4, 5, 6, 7, 8, 9, 10, 11, 12, 13, 14, 15, 16, 17] [18, 19, 20, 21, 22, 23, 24, 25, 26, 27, 28, 29, 30, 31] [14, 15, 16, 17, 18, 19, 20, 21, 22, 23, 24, 25, 26, 27, 28, 29, 30, 31, 0, 1, 2, 3, 4, 5, 6, 7, 8, 9, 10, 11, 12, 13] rfl rfl (by decide) (by decide) (by decide) rfl rfl (by decide) (As := [.int x2]) (rest := []) rfl rfl hl.1 (Nat.le_of_ble_eq_true rfl) dX7_tellsApart_7 (k1 := 0) (n1 := 0) rfl rfl ⟨Nat.zero_le _, Nat.zero_le _⟩ (fun H locs hP hD hS => ?_)
    refine lv_aload_n hx hb dX7_tellsApart_10 rfl (lv_at hl 0 rfl) ?_
    refine lv_iload_n hx hb dX7_tellsApart_11 rfl (lv_at hl 3 rfl) ?_
    obtain ⟨c5, hg6, hf⟩ := o1_at hf
    rcases Classical.em (¬ c5 = 0) with hc5 | hc5
    · have hf := it_f hf hc5
      obtain ⟨rfl, rfl, rfl, rfl, rfl, rfl⟩ := kp_6 hf
      exact kx_vvP ⟨hx, hb, hml, hown, htu⟩ hK hP hD hS hA hG (t_X7_checkFault l hst g bF qF0 qF2 qF3 (bRT 0) vF bS (bT 0) bC vC x3 c5 hg6 hc5) (cwV 1 htu (gU_V mw_4_169 hcX7_checkFault) rfl rfl rfl hdX7_checkFault ⟨Nat.le_of_ble_eq_true rfl, Nat.le_of_ble_eq_true rfl⟩) (q0 := 0) (ci := 7) (fs := fcF bF qF0 (bS 0) qF2 qF3 (bRT 0) vF) (q := (RX7, TX7, 12)) rfl rfl rfl (wr := (cT g bT vT ++ (cR g bRT nRT (bG 0) (bB 0) vRT ++ (cL g bG vG ++ (cL g bB vB))))) (w2 := cF g bF qF0 (bS 0) qF2 qF3 (bRT 0) vF ++ (cS g bS (bC 0) (bT 0) ++ (cC g bC vC ++ (cT g bT vT ++ (cR g bRT nRT (bG 0) (bB 0) vRT ++ (cL g bG vG ++ (cL g bB vB))))))) [0, 1, 2, 3, 4, 5, 6, 7, 8, 9, 10, 11, 12, 13, 14, 15, 16, 17] [18, 19, 20, 21, 22, 23, 24, 25, 26, 27, 28, 29, 30, 31] [14, 15, 16, 17, 18, 19, 20, 21, 22, 23, 24, 25, 26, 27, 28, 29, 30, 31, 0, 1, 2, 3, 4, 5, 6, 7, 8, 9, 10, 11, 12, 13] rfl rfl (by decide) (by decide) (by decide) rfl rfl (by decide) (As := [.int x3]) (rest := []) rfl rfl hl.1 (Nat.le_of_ble_eq_true rfl) dX7_tellsApart_12 ⟨Nat.le_refl _, Nat.le_refl _⟩ ⟨Nat.le_refl _, Nat.le_refl _⟩ hT hlocks
    have hc5 := Classical.not_not.mp hc5
    have hf := it_t hf hc5
    rw [hc5] at hg6
    refine k_vvP ⟨hx, hb, hml, hown, htu⟩ hK hP hD hS hA hG (c_X7_checkFault l g bF qF0 qF2 qF3 (bRT 0) vF bS (bT 0) bC vC x3 hg6) (cwV 1 htu (gU_V mw_4_169 hcX7_checkFault) rfl rfl rfl hdX7_checkFault ⟨Nat.le_of_ble_eq_true rfl, Nat.le_of_ble_eq_true rfl⟩) (q0 := 0) (ci := 7) (fs := fcF bF qF0 (bS 0) qF2 qF3 (bRT 0) vF) (q := (RX7, TX7, 12)) rfl rfl rfl (wr := (cT g bT vT ++ (cR g bRT nRT (bG 0) (bB 0) vRT ++ (cL g bG vG ++ (cL g bB vB))))) (w2 := cF g bF qF0 (bS 0) qF2 qF3 (bRT 0) vF ++ (cS g bS (bC 0) (bT 0) ++ (cC g bC vC ++ (cT g bT vT ++ (cR g bRT nRT (bG 0) (bB 0) vRT ++ (cL g bG vG ++ (cL g bB vB))))))) [0, 1, 2, 3, 4, 5, 6, 7, 8, 9, 10, 11, 12, 13, 14, 15, 16, 17] [18, 19, 20, 21, 22, 23, 24, 25, 26, 27, 28, 29, 30, 31] [14, 15, 16, 17, 18, 19, 20, 21, 22, 23, 24, 25, 26, 27, 28, 29, 30, 31, 0, 1, 2, 3, 4, 5, 6, 7, 8, 9, 10, 11, 12, 13] rfl rfl (by decide) (by decide) (by decide) rfl rfl (by decide) (As := [.int x3]) (rest := []) rfl rfl hl.1 (Nat.le_of_ble_eq_true rfl) dX7_tellsApart_12 (k1 := 0) (n1 := 0) rfl rfl ⟨Nat.zero_le _, Nat.zero_le _⟩ (fun H locs hP hD hS => ?_)
    refine lv_aload_n hx hb dX7_tellsApart_15 rfl (lv_at hl 0 rfl) ?_
    obtain ⟨vF_7, vRT_8, vG_9, vB_10, hg11, hf⟩ := o4_at hf
    refine k_vvW ⟨hx, hb, hml, hown, htu⟩ hK hP hD hS hA hG (c_X7_refreshTestRows l g bF qF0 qF2 qF3 vF bS bC vC bT vT bRT nRT vRT bG vG bB vB vF_7 vRT_8 vG_9 vB_10 hg11) (cwV 0 htu (gU_V mw_2_157 hcX7_refreshTestRows) rfl rfl rfl hdX7_refreshTestRows ⟨Nat.le_of_ble_eq_true rfl, Nat.le_of_ble_eq_true rfl⟩) (q0 := 0) (ci := 7) (fs := fcF bF qF0 (bS 0) qF2 qF3 (bRT 0) vF) (q := (RX7, TX7, 12)) rfl rfl rfl (As := []) (rest := []) rfl rfl hl.1 (Nat.le_of_ble_eq_true rfl) dX7_tellsApart_16 (k1 := 0) (n1 := 0) rfl rfl ⟨Nat.zero_le _, Nat.zero_le _⟩ (fun H locs hP hD hS => ?_)
    refine lv_aload_n hx hb dX7_tellsApart_19 rfl (lv_at hl 0 rfl) ?_
    refine va_get (D := g.1) (ci := 7) (fs := fcF bF qF0 (bS 0) qF2 qF3 (bRT 0) vF_7) (v := .ref (bRT 0)) (C := RX7) (T := TX7) (N := 12) hx hb htu hinX7 hown hK hP 0 rfl rfl 4 (by decide) k_2_22 (fun _ h9 => h9) rfl dX7_tellsApart_20 ?_
    refine lv_aload_n hx hb dX7_tellsApart_23 rfl (lv_at hl 0 rfl) ?_
    refine va_get (D := g.1) (ci := 7) (fs := fcF bF qF0 (bS 0) qF2 qF3 (bRT 0) vF_7) (v := .ref (bS 0)) (C := RX7) (T := TX7) (N := 12) hx hb htu hinX7 hown hK hP 0 rfl rfl 1 (by decide) k_2_19 (fun _ h9 => h9) rfl dX7_tellsApart_24 ?_
    refine va_get (D := g.1) (ci := 4) (fs := fcS bS (bC 0) (bT 0)) (v := .ref (bC 0)) (C := RX4) (T := TX4) (N := 2) hx hb htu hinX4 hown hK hP 6 rfl rfl 0 (by decide) k_1_150 (fun _ h9 => h9) rfl dX7_tellsApart_27 ?_
    refine lv_iload_n hx hb dX7_tellsApart_30 rfl (lv_at hl 2 rfl) ?_
    refine lv_iload_n hx hb dX7_tellsApart_31 rfl (lv_at hl 3 rfl) ?_
    refine lv_iconst (v := (0 : Int32)) hx hb dX7_tellsApart_32 (by decide) ?_
    obtain ⟨r12, hg13, hf⟩ := o1_at hf
    refine k_vlP ⟨hx, hb, hml, hown, htu⟩ hK hP hD hS hA hG (c_X3_apart l g bRT nRT (bG 0) (bB 0) vRT_8 bC vC x2 x3 (0 : Int32) r12 hg13) (cwV 4 htu (gU_V mw_2_170 hcX3_apart) rfl rfl rfl hdX3_apart ⟨Nat.le_of_ble_eq_true rfl, Nat.le_of_ble_eq_true rfl⟩) (q0 := 23) (ci := 3) (fs := fcR bRT (bG 0) (bB 0) vRT_8) (q := (RX3, TX3, 5)) rfl rfl rfl (wr := (cF g bF qF0 (bS 0) qF2 qF3 (bRT 0) vF_7 ++ (cS g bS (bC 0) (bT 0) ++ (cT g bT vT ++ (cL g bG vG_9 ++ (cL g bB vB_10)))))) (w2 := cF g bF qF0 (bS 0) qF2 qF3 (bRT 0) vF_7 ++ (cS g bS (bC 0) (bT 0) ++ (cC g bC vC ++ (cT g bT vT ++ (cR g bRT nRT (bG 0) (bB 0) vRT_8 ++ (cL g bG vG_9 ++ (cL g bB vB_10))))))) [23, 24, 25, 7, 8, 9, 10, 11, 12, 13, 14, 15, 16, 17] [0, 1, 2, 3, 4, 5, 6, 18, 19, 20, 21, 22, 26, 27, 28, 29, 30, 31] [0, 1, 2, 3, 4, 5, 6, 21, 22, 23, 24, 25, 26, 27, 28, 29, 30, 31, 7, 8, 9, 10, 11, 18, 19, 20, 12, 13, 14, 15, 16, 17] rfl rfl (by decide) (by decide) (by decide) rfl rfl (by decide) (As := [.ref (bC 0), .int x2, .int x3, .int (0 : Int32)]) (rest := []) rfl rfl hl.1 (Nat.le_of_ble_eq_true rfl) dX7_tellsApart_33 (k1 := 0) (n1 := 0) rfl rfl ⟨Nat.zero_le _, Nat.zero_le _⟩ (fun H locs hP hD hS => ?_)
    refine lv_iload_n hx hb dX7_tellsApart_36 rfl (lv_at hl 1 rfl) ?_
    obtain ⟨r14, hg15, hf⟩ := o1_at hf
    refine k_si0 ⟨hx, hb, hml, hown, htu⟩ hK hP hD hS hA hG (c_X7_hasLane l g r12 x1 r14 hg15) (va_cwS 2 htu (gU_S mw_4_182 hcX7_hasLane) rfl rfl rfl hdX7_hasLane ⟨Nat.le_of_ble_eq_true rfl, Nat.le_of_ble_eq_true rfl⟩) (As := [.long r12, .int x1]) (rest := []) rfl rfl hl.1 (Nat.le_of_ble_eq_true rfl) dX7_tellsApart_37 (k1 := 0) (n1 := 0) rfl rfl ⟨Nat.zero_le _, Nat.zero_le _⟩ (fun H locs hP hD hS => ?_)
    obtain ⟨h16, hf⟩ := gd_isB hf
    exact absurd (kp_6 hf).1.symm hek
  rw [hH, hlo] at hW
  exact hW
def f_X7_worth (vF : Vs) (vC : Vs) (vT : Vs) (nRT : Nat) (vRT : Vs) (vG : Vs) (vB : Vs) (x1 : Int32) : Option (Nat × Int32 × Vs × Vs × Vs × Vs) :=
  o1 (f_X7_checkTest vF vT x1) (fun (c1 : Nat) => if c1 = 0 then (o5 (f_X7_listFoundByTests vF vC vT nRT vRT vG vB) (fun (r3 : Int64) (vF_4 : Vs) (vRT_5 : Vs) (vG_6 : Vs) (vB_7 : Vs) => gd (inb x1 16) (o1 (f_J13_bitCount_95d88 (vF_4.2.2 9 (x1).toNatClampNeg)) (fun (r10 : Int32) => some (0, r10, vF_4, vRT_5, vG_6, vB_7))))) else some (c1, (0 : Int32), vF, vRT, vG, vB))
abbrev wsX7_worth : List Cond := .code yX7_worth cX7_worth 2 (some .int) :: UW
abbrev rmX7_worth : Room := { frames := 5, cells := 0, slots := 0, locals := 124 }
set_option maxHeartbeats 4000000 in
set_option maxRecDepth 100000 in
theorem c_X7_worth (l : Launch) (g : Gx) (bF : Nat → Nat) (qF0 : Nat) (qF2 : Nat) (qF3 : Nat) (vF : Vs) (bS : Nat → Nat) (bC : Nat → Nat) (vC : Vs) (bT : Nat → Nat) (vT : Vs) (bRT : Nat → Nat) (nRT : Nat) (vRT : Vs) (bG : Nat → Nat) (vG : Vs) (bB : Nat → Nat) (vB : Vs) (x1 : Int32) (r : Int32) (vF1 : Vs) (vRT1 : Vs) (vG1 : Vs) (vB1 : Vs) (hf : f_X7_worth vF vC vT nRT vRT vG vB x1 = some (0, r, vF1, vRT1, vG1, vB1)) : CtI l yX7_worth wsX7_worth rmX7_worth g [.ref (bF 0), .int x1] (cF g bF qF0 (bS 0) qF2 qF3 (bRT 0) vF ++ (cS g bS (bC 0) (bT 0) ++ (cC g bC vC ++ (cT g bT vT ++ (cR g bRT nRT (bG 0) (bB 0) vRT ++ (cL g bG vG ++ (cL g bB vB))))))) (cF g bF qF0 (bS 0) qF2 qF3 (bRT 0) vF1 ++ (cS g bS (bC 0) (bT 0) ++ (cC g bC vC ++ (cT g bT vT ++ (cR g bRT nRT (bG 0) (bB 0) vRT1 ++ (cL g bG vG1 ++ (cL g bB vB1))))))) r 0 0 := by
  unfold CtI
  intro sz
  refine Met.ofW (cc := cX7_worth) (maxL := 2) (ret := (some .int)) (by decide) rfl ?_
  intro p e s m args below meth c s₁ B hml hv
  obtain ⟨rfl, hsz, hP, hK, hD0, hG⟩ := hv
  have hx := B.exec
  have hb := B.bytes
  have hr := B.returns
  have hts := atoms_spec (ws := wsX7_worth) B.pre
  have hown : s.vm.findClass RX7 = some m.cls := findClass_of_methodNamed B.named
  have hlocks := B.notSynchronized
  subst hsz
  have hD := hD0.self (sz := s.heap.size)
  generalize hAe : va_A (cF g bF qF0 (bS 0) qF2 qF3 (bRT 0) vF ++ (cS g bS (bC 0) (bT 0) ++ (cC g bC vC ++ (cT g bT vT ++ (cR g bRT nRT (bG 0) (bB 0) vRT ++ (cL g bG vG ++ (cL g bB vB))))))) s.heap.size = A at hD hG ⊢
  have hA : ∀ q : Nat, s.heap.size ≤ q → A q := fun q h => by rw [← hAe]; exact Or.inr h
  clear hAe hD0
  have hS : va_S A s.heap s.heap [] := va_S.rf
  have hl := lv_entry ([.ref (bF 0), .int x1]) (n := 2) (Nat.le_of_ble_eq_true rfl)
  rw [lg_entry_eq]
  generalize (lg_sl ([.ref (bF 0), .int x1]) ++ List.replicate (2 - (lg_sl ([.ref (bF 0), .int x1])).length) Slot.unset).toArray = ls at hl ⊢
  have hl : lv_has ls 2 [(0, .ref (bF 0)), (1, .int x1)] := hl
  have htu : ∀ w ∈ UW, w.before _ s = true := fun w h => hts w (List.mem_cons_of_mem _ h)
  have k_2_27 := htu _ mw_2_27
  unfold f_X7_worth at hf
  obtain ⟨H, hH⟩ : ∃ z, z = s.heap := ⟨_, rfl⟩
  obtain ⟨locs, hlo⟩ : ∃ z : List Loc, z = [] := ⟨_, rfl⟩
  have hS : va_S A s.heap H locs := by rw [hH, hlo]; exact hS
  rw [← hH] at hP
  have hW : W p l e (headSpec wsX7_worth rmX7_worth).room s m ([.ref (bF 0), .int x1] : List Value).toArray below meth c H locs 0 0 (MQ below (qI g A (cF g bF qF0 (bS 0) qF2 qF3 (bRT 0) vF1 ++ (cS g bS (bC 0) (bT 0) ++ (cC g bC vC ++ (cT g bT vT ++ (cR g bRT nRT (bG 0) (bB 0) vRT1 ++ (cL g bG vG1 ++ (cL g bB vB1))))))) r) ([.ref (bF 0), .int x1] : List Value).toArray s 0 0 A) (F0 m 0 ls []) := by
    refine lv_aload_n hx hb dX7_worth_0 rfl (lv_at hl 0 rfl) ?_
    refine lv_iload_n hx hb dX7_worth_1 rfl (lv_at hl 1 rfl) ?_
    obtain ⟨c1, hg2, hf⟩ := o1_at hf
    have hc1 : c1 = 0 := Classical.byContradiction (fun h9 => h9 (kp_6 (it_f hf h9)).1)
    have hf := it_t hf hc1
    rw [hc1] at hg2
    refine k_vvP ⟨hx, hb, hml, hown, htu⟩ hK hP hD hS hA hG (c_X7_checkTest l g bF qF0 qF2 qF3 (bRT 0) vF bS (bC 0) bT vT x1 hg2) (cwV 1 htu (gU_V mw_4_157 hcX7_checkTest) rfl rfl rfl hdX7_checkTest ⟨Nat.le_of_ble_eq_true rfl, Nat.le_of_ble_eq_true rfl⟩) (q0 := 0) (ci := 7) (fs := fcF bF qF0 (bS 0) qF2 qF3 (bRT 0) vF) (q := (RX7, TX7, 12)) rfl rfl rfl (wr := (cC g bC vC ++ (cR g bRT nRT (bG 0) (bB 0) vRT ++ (cL g bG vG ++ (cL g bB vB))))) (w2 := cF g bF qF0 (bS 0) qF2 qF3 (bRT 0) vF ++ (cS g bS (bC 0) (bT 0) ++ (cC g bC vC ++ (cT g bT vT ++ (cR g bRT nRT (bG 0) (bB 0) vRT ++ (cL g bG vG ++ (cL g bB vB))))))) [0, 1, 2, 3, 4, 5, 6, 18, 19, 20, 21, 22] [7, 8, 9, 10, 11, 12, 13, 14, 15, 16, 17, 23, 24, 25, 26, 27, 28, 29, 30, 31] [20, 21, 22, 23, 24, 25, 26, 0, 1, 2, 3, 4, 5, 6, 7, 8, 9, 10, 27, 28, 29, 30, 31, 11, 12, 13, 14, 15, 16, 17, 18, 19] rfl rfl (by decide) (by decide) (by decide) rfl rfl (by decide) (As := [.int x1]) (rest := []) rfl rfl hl.1 (Nat.le_of_ble_eq_true rfl) dX7_worth_2 (k1 := 0) (n1 := 0) rfl rfl ⟨Nat.zero_le _, Nat.zero_le _⟩ (fun H locs hP hD hS => ?_)
    refine lv_aload_n hx hb dX7_worth_5 rfl (lv_at hl 0 rfl) ?_
    obtain ⟨r3, vF_4, vRT_5, vG_6, vB_7, hg8, hf⟩ := o5_at hf
    refine k_vlW ⟨hx, hb, hml, hown, htu⟩ hK hP hD hS hA hG (c_X7_listFoundByTests l g bF qF0 qF2 qF3 vF bS bC vC bT vT bRT nRT vRT bG vG bB vB r3 vF_4 vRT_5 vG_6 vB_7 hg8) (cwV 0 htu (gU_V mw_2_153 hcX7_listFoundByTests) rfl rfl rfl hdX7_listFoundByTests ⟨Nat.le_of_ble_eq_true rfl, Nat.le_of_ble_eq_true rfl⟩) (q0 := 0) (ci := 7) (fs := fcF bF qF0 (bS 0) qF2 qF3 (bRT 0) vF) (q := (RX7, TX7, 12)) rfl rfl rfl (As := []) (rest := []) rfl rfl hl.1 (Nat.le_of_ble_eq_true rfl) dX7_worth_6 (k1 := 0) (n1 := 0) rfl rfl ⟨Nat.zero_le _, Nat.zero_le _⟩ (fun H locs hP hD hS => ?_)
    refine lv_pop2_2 hx hb dX7_worth_9 rfl ?_
    refine lv_aload_n hx hb dX7_worth_10 rfl (lv_at hl 0 rfl) ?_
    refine va_get (D := g.1) (ci := 7) (fs := fcF bF qF0 (bS 0) qF2 qF3 (bRT 0) vF_4) (v := .ref (bF 10)) (C := RX7) (T := TX7) (N := 12) hx hb htu hinX7 hown hK hP 0 rfl rfl 9 (by decide) k_2_27 (fun _ h9 => h9) rfl dX7_worth_11 ?_
    refine lv_iload_n hx hb dX7_worth_14 rfl (lv_at hl 1 rfl) ?_
    obtain ⟨h9, hf⟩ := gd_in hf
    refine va_lald (D := g.1) (f := (vF_4.2.2 9)) hx hb hK hP 3 1 rfl rfl h9 dX7_worth_15 ?_
    obtain ⟨r10, hg11, hf⟩ := o1_at hf
    refine k_si0 ⟨hx, hb, hml, hown, htu⟩ hK hP hD hS hA hG (c_J13_bitCount_95d88 l g (vF_4.2.2 9 (x1).toNatClampNeg) r10 hg11) (va_cwS 1 htu (gU_S mw_2_171 hcJ13_bitCount_95d88) rfl rfl rfl hdJ13_bitCount_95d88 ⟨Nat.le_of_ble_eq_true rfl, Nat.le_of_ble_eq_true rfl⟩) (As := [.long (vF_4.2.2 9 (x1).toNatClampNeg)]) (rest := []) rfl rfl hl.1 (Nat.le_of_ble_eq_true rfl) dX7_worth_16 (k1 := 0) (n1 := 0) rfl rfl ⟨Nat.zero_le _, Nat.zero_le _⟩ (fun H locs hP hD hS => ?_)
    obtain ⟨e12, e13, e14, e15, e16, e17⟩ := kp_6 hf
    rw [e14] at hP hD
    rw [e15] at hP hD
    rw [e16] at hP hD
    rw [e17] at hP hD
    exact k_iret hx hb hr hlocks hK hP hD hS e13 dX7_worth_19
  rw [hH, hlo] at hW
  exact hW
abbrev rtX7_worth : Room := { frames := 9, cells := 1, slots := 6, locals := 141 }
set_option maxHeartbeats 4000000 in
set_option maxRecDepth 100000 in
theorem t_X7_worth (l : Launch) (hst : l.stackTraces = false) (g : Gx) (bF : Nat → Nat) (qF0 : Nat) (qF2 : Nat) (qF3 : Nat) (vF : Vs) (bS : Nat → Nat) (bC : Nat → Nat) (vC : Vs) (bT : Nat → Nat) (vT : Vs) (bRT : Nat → Nat) (nRT : Nat) (vRT : Vs) (bG : Nat → Nat) (vG : Vs) (bB : Nat → Nat) (vB : Vs) (x1 : Int32) (r : Int32) (vF1 : Vs) (vRT1 : Vs) (vG1 : Vs) (vB1 : Vs) (ek : Nat) (hf : f_X7_worth vF vC vT nRT vRT vG vB x1 = some (ek, r, vF1, vRT1, vG1, vB1)) (hek : ¬ ek = 0) : CtXI l yX7_worth wsX7_worth rtX7_worth g [.ref (bF 0), .int x1] (cF g bF qF0 (bS 0) qF2 qF3 (bRT 0) vF ++ (cS g bS (bC 0) (bT 0) ++ (cC g bC vC ++ (cT g bT vT ++ (cR g bRT nRT (bG 0) (bB 0) vRT ++ (cL g bG vG ++ (cL g bB vB))))))) (cF g bF qF0 (bS 0) qF2 qF3 (bRT 0) vF1 ++ (cS g bS (bC 0) (bT 0) ++ (cC g bC vC ++ (cT g bT vT ++ (cR g bRT nRT (bG 0) (bB 0) vRT1 ++ (cL g bG vG1 ++ (cL g bB vB1))))))) (exN ek) 1 6 := by
  unfold CtXI
  intro sz
  refine vx_ofW (cc := cX7_worth) (maxL := 2) (ret := (some .int)) (by decide) rfl ?_
  intro p e s m args below meth c s₁ B hml hT hv
  obtain ⟨rfl, hsz, hP, hK, hD0, hG⟩ := hv
  have hx := B.exec
  have hb := B.bytes
  have hr := B.returns
  have hts := atoms_spec (ws := wsX7_worth) B.pre
  have hown : s.vm.findClass RX7 = some m.cls := findClass_of_methodNamed B.named
  have hlocks := B.notSynchronized
  subst hsz
  have hD := hD0.self (sz := s.heap.size)
  generalize hAe : va_A (cF g bF qF0 (bS 0) qF2 qF3 (bRT 0) vF ++ (cS g bS (bC 0) (bT 0) ++ (cC g bC vC ++ (cT g bT vT ++ (cR g bRT nRT (bG 0) (bB 0) vRT ++ (cL g bG vG ++ (cL g bB vB))))))) s.heap.size = A at hD hG ⊢
  have hA : ∀ q : Nat, s.heap.size ≤ q → A q := fun q h => by rw [← hAe]; exact Or.inr h
  clear hAe hD0
  have hS : va_S A s.heap s.heap [] := va_S.rf
  have hl := lv_entry ([.ref (bF 0), .int x1]) (n := 2) (Nat.le_of_ble_eq_true rfl)
  rw [lg_entry_eq]
  generalize (lg_sl ([.ref (bF 0), .int x1]) ++ List.replicate (2 - (lg_sl ([.ref (bF 0), .int x1])).length) Slot.unset).toArray = ls at hl ⊢
  have hl : lv_has ls 2 [(0, .ref (bF 0)), (1, .int x1)] := hl
  have htu : ∀ w ∈ UW, w.before _ s = true := fun w h => hts w (List.mem_cons_of_mem _ h)
  have k_2_27 := htu _ mw_2_27
  unfold f_X7_worth at hf
  obtain ⟨H, hH⟩ : ∃ z, z = s.heap := ⟨_, rfl⟩
  obtain ⟨locs, hlo⟩ : ∃ z : List Loc, z = [] := ⟨_, rfl⟩
  have hS : va_S A s.heap H locs := by rw [hH, hlo]; exact hS
  rw [← hH] at hP
  have hW : W p l e (headSpec wsX7_worth rtX7_worth).room s m ([.ref (bF 0), .int x1] : List Value).toArray below meth c H locs 0 0 (vx_MQ below (nI0 A) (xE g A (cF g bF qF0 (bS 0) qF2 qF3 (bRT 0) vF1 ++ (cS g bS (bC 0) (bT 0) ++ (cC g bC vC ++ (cT g bT vT ++ (cR g bRT nRT (bG 0) (bB 0) vRT1 ++ (cL g bG vG1 ++ (cL g bB vB1))))))) (exN ek)) ([.ref (bF 0), .int x1] : List Value).toArray s 1 6 A) (F0 m 0 ls []) := by
    refine lv_aload_n hx hb dX7_worth_0 rfl (lv_at hl 0 rfl) ?_
    refine lv_iload_n hx hb dX7_worth_1 rfl (lv_at hl 1 rfl) ?_
    obtain ⟨c1, hg2, hf⟩ := o1_at hf
    rcases Classical.em (¬ c1 = 0) with hc1 | hc1
    · have hf := it_f hf hc1
      obtain ⟨rfl, rfl, rfl, rfl, rfl, rfl⟩ := kp_6 hf
      exact kx_vvP ⟨hx, hb, hml, hown, htu⟩ hK hP hD hS hA hG (t_X7_checkTest l hst g bF qF0 qF2 qF3 (bRT 0) vF bS (bC 0) bT vT x1 c1 hg2 hc1) (cwV 1 htu (gU_V mw_4_157 hcX7_checkTest) rfl rfl rfl hdX7_checkTest ⟨Nat.le_of_ble_eq_true rfl, Nat.le_of_ble_eq_true rfl⟩) (q0 := 0) (ci := 7) (fs := fcF bF qF0 (bS 0) qF2 qF3 (bRT 0) vF) (q := (RX7, TX7, 12)) rfl rfl rfl (wr := (cC g bC vC ++ (cR g bRT nRT (bG 0) (bB 0) vRT ++ (cL g bG vG ++ (cL g bB vB))))) (w2 := cF g bF qF0 (bS 0) qF2 qF3 (bRT 0) vF ++ (cS g bS (bC 0) (bT 0) ++ (cC g bC vC ++ (cT g bT vT ++ (cR g bRT nRT (bG 0) (bB 0) vRT ++ (cL g bG vG ++ (cL g bB vB))))))) [0, 1, 2, 3, 4, 5, 6, 18, 19, 20, 21, 22] [7, 8, 9, 10, 11, 12, 13, 14, 15, 16, 17, 23, 24, 25, 26, 27, 28, 29, 30, 31] [20, 21, 22, 23, 24, 25, 26, 0, 1, 2, 3, 4, 5, 6, 7, 8, 9, 10, 27, 28, 29, 30, 31, 11, 12, 13, 14, 15, 16, 17, 18, 19] rfl rfl (by decide) (by decide) (by decide) rfl rfl (by decide) (As := [.int x1]) (rest := []) rfl rfl hl.1 (Nat.le_of_ble_eq_true rfl) dX7_worth_2 ⟨Nat.le_refl _, Nat.le_refl _⟩ ⟨Nat.le_refl _, Nat.le_refl _⟩ hT hlocks
    have hc1 := Classical.not_not.mp hc1
    have hf := it_t hf hc1
    rw [hc1] at hg2
    refine k_vvP ⟨hx, hb, hml, hown, htu⟩ hK hP hD hS hA hG (c_X7_checkTest l g bF qF0 qF2 qF3 (bRT 0) vF bS (bC 0) bT vT x1 hg2) (cwV 1 htu (gU_V mw_4_157 hcX7_checkTest) rfl rfl rfl hdX7_checkTest ⟨Nat.le_of_ble_eq_true rfl, Nat.le_of_ble_eq_true rfl⟩) (q0 := 0) (ci := 7) (fs := fcF bF qF0 (bS 0) qF2 qF3 (bRT 0) vF) (q := (RX7, TX7, 12)) rfl rfl rfl (wr := (cC g bC vC ++ (cR g bRT nRT (bG 0) (bB 0) vRT ++ (cL g bG vG ++ (cL g bB vB))))) (w2 := cF g bF qF0 (bS 0) qF2 qF3 (bRT 0) vF ++ (cS g bS (bC 0) (bT 0) ++ (cC g bC vC ++ (cT g bT vT ++ (cR g bRT nRT (bG 0) (bB 0) vRT ++ (cL g bG vG ++ (cL g bB vB))))))) [0, 1, 2, 3, 4, 5, 6, 18, 19, 20, 21, 22] [7, 8, 9, 10, 11, 12, 13, 14, 15, 16, 17, 23, 24, 25, 26, 27, 28, 29, 30, 31] [20, 21, 22, 23, 24, 25, 26, 0, 1, 2, 3, 4, 5, 6, 7, 8, 9, 10, 27, 28, 29, 30, 31, 11, 12, 13, 14, 15, 16, 17, 18, 19] rfl rfl (by decide) (by decide) (by decide) rfl rfl (by decide) (As := [.int x1]) (rest := []) rfl rfl hl.1 (Nat.le_of_ble_eq_true rfl) dX7_worth_2 (k1 := 0) (n1 := 0) rfl rfl ⟨Nat.zero_le _, Nat.zero_le _⟩ (fun H locs hP hD hS => ?_)
    refine lv_aload_n hx hb dX7_worth_5 rfl (lv_at hl 0 rfl) ?_
    obtain ⟨r3, vF_4, vRT_5, vG_6, vB_7, hg8, hf⟩ := o5_at hf
    refine k_vlW ⟨hx, hb, hml, hown, htu⟩ hK hP hD hS hA hG (c_X7_listFoundByTests l g bF qF0 qF2 qF3 vF bS bC vC bT vT bRT nRT vRT bG vG bB vB r3 vF_4 vRT_5 vG_6 vB_7 hg8) (cwV 0 htu (gU_V mw_2_153 hcX7_listFoundByTests) rfl rfl rfl hdX7_listFoundByTests ⟨Nat.le_of_ble_eq_true rfl, Nat.le_of_ble_eq_true rfl⟩) (q0 := 0) (ci := 7) (fs := fcF bF qF0 (bS 0) qF2 qF3 (bRT 0) vF) (q := (RX7, TX7, 12)) rfl rfl rfl (As := []) (rest := []) rfl rfl hl.1 (Nat.le_of_ble_eq_true rfl) dX7_worth_6 (k1 := 0) (n1 := 0) rfl rfl ⟨Nat.zero_le _, Nat.zero_le _⟩ (fun H locs hP hD hS => ?_)
    refine lv_pop2_2 hx hb dX7_worth_9 rfl ?_
    refine lv_aload_n hx hb dX7_worth_10 rfl (lv_at hl 0 rfl) ?_
    refine va_get (D := g.1) (ci := 7) (fs := fcF bF qF0 (bS 0) qF2 qF3 (bRT 0) vF_4) (v := .ref (bF 10)) (C := RX7) (T := TX7) (N := 12) hx hb htu hinX7 hown hK hP 0 rfl rfl 9 (by decide) k_2_27 (fun _ h9 => h9) rfl dX7_worth_11 ?_
    refine lv_iload_n hx hb dX7_worth_14 rfl (lv_at hl 1 rfl) ?_
    obtain ⟨h9, hf⟩ := gd_in hf
    refine va_lald (D := g.1) (f := (vF_4.2.2 9)) hx hb hK hP 3 1 rfl rfl h9 dX7_worth_15 ?_
    obtain ⟨r10, hg11, hf⟩ := o1_at hf
    refine k_si0 ⟨hx, hb, hml, hown, htu⟩ hK hP hD hS hA hG (c_J13_bitCount_95d88 l g (vF_4.2.2 9 (x1).toNatClampNeg) r10 hg11) (va_cwS 1 htu (gU_S mw_2_171 hcJ13_bitCount_95d88) rfl rfl rfl hdJ13_bitCount_95d88 ⟨Nat.le_of_ble_eq_true rfl, Nat.le_of_ble_eq_true rfl⟩) (As := [.long (vF_4.2.2 9 (x1).toNatClampNeg)]) (rest := []) rfl rfl hl.1 (Nat.le_of_ble_eq_true rfl) dX7_worth_16 (k1 := 0) (n1 := 0) rfl rfl ⟨Nat.zero_le _, Nat.zero_le _⟩ (fun H locs hP hD hS => ?_)
    exact absurd (kp_6 hf).1.symm hek
  rw [hH, hlo] at hW
  exact hW
def f_X7_testFor (vF : Vs) (vC : Vs) (nRF : Nat) (vRF : Vs) (vGF : Vs) (vBF : Vs) (x1 : Int32) : Option (Nat × Int32 × Vs × Vs × Vs × Vs) :=
  o1 (f_X7_checkFault vF vC x1) (fun (c1 : Nat) => if c1 = 0 then (o4 (f_X7_refreshFullRows vF vC nRF vRF vGF vBF) (fun (vF_3 : Vs) (vRF_4 : Vs) (vGF_5 : Vs) (vBF_6 : Vs) => o1 (f_X3_firstApart nRF vRF_4 vC (-1 : Int32) x1) (fun (r8 : Int32) => some (0, r8, vF_3, vRF_4, vGF_5, vBF_6)))) else some (c1, (0 : Int32), vF, vRF, vGF, vBF))
abbrev wsX7_testFor : List Cond := .code yX7_testFor cX7_testFor 2 (some .int) :: UW
abbrev rmX7_testFor : Room := { frames := 4, cells := 0, slots := 0, locals := 106 }
set_option maxHeartbeats 4000000 in
set_option maxRecDepth 100000 in
theorem c_X7_testFor (l : Launch) (g : Gx) (bF : Nat → Nat) (qF0 : Nat) (qF2 : Nat) (qF4 : Nat) (vF : Vs) (bS : Nat → Nat) (qS1 : Nat) (bC : Nat → Nat) (vC : Vs) (bRF : Nat → Nat) (nRF : Nat) (vRF : Vs) (bGF : Nat → Nat) (vGF : Vs) (bBF : Nat → Nat) (vBF : Vs) (x1 : Int32) (r : Int32) (vF1 : Vs) (vRF1 : Vs) (vGF1 : Vs) (vBF1 : Vs) (hf : f_X7_testFor vF vC nRF vRF vGF vBF x1 = some (0, r, vF1, vRF1, vGF1, vBF1)) : CtI l yX7_testFor wsX7_testFor rmX7_testFor g [.ref (bF 0), .int x1] (cF g bF qF0 (bS 0) qF2 (bRF 0) qF4 vF ++ (cS g bS (bC 0) qS1 ++ (cC g bC vC ++ (cR g bRF nRF (bGF 0) (bBF 0) vRF ++ (cL g bGF vGF ++ (cL g bBF vBF)))))) (cF g bF qF0 (bS 0) qF2 (bRF 0) qF4 vF1 ++ (cS g bS (bC 0) qS1 ++ (cC g bC vC ++ (cR g bRF nRF (bGF 0) (bBF 0) vRF1 ++ (cL g bGF vGF1 ++ (cL g bBF vBF1)))))) r 0 0 := by
  unfold CtI
  intro sz
  refine Met.ofW (cc := cX7_testFor) (maxL := 2) (ret := (some .int)) (by decide) rfl ?_
  intro p e s m args below meth c s₁ B hml hv
  obtain ⟨rfl, hsz, hP, hK, hD0, hG⟩ := hv
  have hx := B.exec
  have hb := B.bytes
  have hr := B.returns
  have hts := atoms_spec (ws := wsX7_testFor) B.pre
  have hown : s.vm.findClass RX7 = some m.cls := findClass_of_methodNamed B.named
  have hlocks := B.notSynchronized
  subst hsz
  have hD := hD0.self (sz := s.heap.size)
  generalize hAe : va_A (cF g bF qF0 (bS 0) qF2 (bRF 0) qF4 vF ++ (cS g bS (bC 0) qS1 ++ (cC g bC vC ++ (cR g bRF nRF (bGF 0) (bBF 0) vRF ++ (cL g bGF vGF ++ (cL g bBF vBF)))))) s.heap.size = A at hD hG ⊢
  have hA : ∀ q : Nat, s.heap.size ≤ q → A q := fun q h => by rw [← hAe]; exact Or.inr h
  clear hAe hD0
  have hS : va_S A s.heap s.heap [] := va_S.rf
  have hl := lv_entry ([.ref (bF 0), .int x1]) (n := 2) (Nat.le_of_ble_eq_true rfl)
  rw [lg_entry_eq]
  generalize (lg_sl ([.ref (bF 0), .int x1]) ++ List.replicate (2 - (lg_sl ([.ref (bF 0), .int x1])).length) Slot.unset).toArray = ls at hl ⊢
  have hl : lv_has ls 2 [(0, .ref (bF 0)), (1, .int x1)] := hl
  have htu : ∀ w ∈ UW, w.before _ s = true := fun w h => hts w (List.mem_cons_of_mem _ h)
  have k_2_21 := htu _ mw_2_21
  have k_2_19 := htu _ mw_2_19
  have k_1_150 := htu _ mw_1_150
  unfold f_X7_testFor at hf
  obtain ⟨H, hH⟩ : ∃ z, z = s.heap := ⟨_, rfl⟩
  obtain ⟨locs, hlo⟩ : ∃ z : List Loc, z = [] := ⟨_, rfl⟩
  have hS : va_S A s.heap H locs := by rw [hH, hlo]; exact hS
  rw [← hH] at hP
  have hW : W p l e (headSpec wsX7_testFor rmX7_testFor).room s m ([.ref (bF 0), .int x1] : List Value).toArray below meth c H locs 0 0 (MQ below (qI g A (cF g bF qF0 (bS 0) qF2 (bRF 0) qF4 vF1 ++ (cS g bS (bC 0) qS1 ++ (cC g bC vC ++ (cR g bRF nRF (bGF 0) (bBF 0) vRF1 ++ (cL g bGF vGF1 ++ (cL g bBF vBF1)))))) r) ([.ref (bF 0), .int x1] : List Value).toArray s 0 0 A) (F0 m 0 ls []) := by
    refine lv_aload_n hx hb dX7_testFor_0 rfl (lv_at hl 0 rfl) ?_
    refine lv_iload_n hx hb dX7_testFor_1 rfl (lv_at hl 1 rfl) ?_
    obtain ⟨c1, hg2, hf⟩ := o1_at hf
    have hc1 : c1 = 0 := Classical.byContradiction (fun h9 => h9 (kp_6 (it_f hf h9)).1)
    have hf := it_t hf hc1
    rw [hc1] at hg2
    refine k_vvP ⟨hx, hb, hml, hown, htu⟩ hK hP hD hS hA hG (c_X7_checkFault l g bF qF0 qF2 (bRF 0) qF4 vF bS qS1 bC vC x1 hg2) (cwV 1 htu (gU_V mw_4_169 hcX7_checkFault) rfl rfl rfl hdX7_checkFault ⟨Nat.le_of_ble_eq_true rfl, Nat.le_of_ble_eq_true rfl⟩) (q0 := 0) (ci := 7) (fs := fcF bF qF0 (bS 0) qF2 (bRF 0) qF4 vF) (q := (RX7, TX7, 12)) rfl rfl rfl (wr := (cR g bRF nRF (bGF 0) (bBF 0) vRF ++ (cL g bGF vGF ++ (cL g bBF vBF)))) (w2 := cF g bF qF0 (bS 0) qF2 (bRF 0) qF4 vF ++ (cS g bS (bC 0) qS1 ++ (cC g bC vC ++ (cR g bRF nRF (bGF 0) (bBF 0) vRF ++ (cL g bGF vGF ++ (cL g bBF vBF)))))) [0, 1, 2, 3, 4, 5, 6, 7, 8, 9, 10, 11, 12, 13, 14, 15, 16, 17] [18, 19, 20, 21, 22, 23, 24, 25, 26] [9, 10, 11, 12, 13, 14, 15, 16, 17, 18, 19, 20, 21, 22, 23, 24, 25, 26, 0, 1, 2, 3, 4, 5, 6, 7, 8] rfl rfl (by decide) (by decide) (by decide) rfl rfl (by decide) (As := [.int x1]) (rest := []) rfl rfl hl.1 (Nat.le_of_ble_eq_true rfl) dX7_testFor_2 (k1 := 0) (n1 := 0) rfl rfl ⟨Nat.zero_le _, Nat.zero_le _⟩ (fun H locs hP hD hS => ?_)
    refine lv_aload_n hx hb dX7_testFor_5 rfl (lv_at hl 0 rfl) ?_
    obtain ⟨vF_3, vRF_4, vGF_5, vBF_6, hg7, hf⟩ := o4_at hf
    refine k_vvW ⟨hx, hb, hml, hown, htu⟩ hK hP hD hS hA hG (c_X7_refreshFullRows l g bF qF0 qF2 qF4 vF bS qS1 bC vC bRF nRF vRF bGF vGF bBF vBF vF_3 vRF_4 vGF_5 vBF_6 hg7) (cwV 0 htu (gU_V mw_2_71 hcX7_refreshFullRows) rfl rfl rfl hdX7_refreshFullRows ⟨Nat.le_of_ble_eq_true rfl, Nat.le_of_ble_eq_true rfl⟩) (q0 := 0) (ci := 7) (fs := fcF bF qF0 (bS 0) qF2 (bRF 0) qF4 vF) (q := (RX7, TX7, 12)) rfl rfl rfl (As := []) (rest := []) rfl rfl hl.1 (Nat.le_of_ble_eq_true rfl) dX7_testFor_6 (k1 := 0) (n1 := 0) rfl rfl ⟨Nat.zero_le _, Nat.zero_le _⟩ (fun H locs hP hD hS => ?_)
    refine lv_aload_n hx hb dX7_testFor_9 rfl (lv_at hl 0 rfl) ?_
    refine va_get (D := g.1) (ci := 7) (fs := fcF bF qF0 (bS 0) qF2 (bRF 0) qF4 vF_3) (v := .ref (bRF 0)) (C := RX7) (T := TX7) (N := 12) hx hb htu hinX7 hown hK hP 0 rfl rfl 3 (by decide) k_2_21 (fun _ h9 => h9) rfl dX7_testFor_10 ?_
    refine lv_aload_n hx hb dX7_testFor_13 rfl (lv_at hl 0 rfl) ?_
    refine va_get (D := g.1) (ci := 7) (fs := fcF bF qF0 (bS 0) qF2 (bRF 0) qF4 vF_3) (v := .ref (bS 0)) (C := RX7) (T := TX7) (N := 12) hx hb htu hinX7 hown hK hP 0 rfl rfl 1 (by decide) k_2_19 (fun _ h9 => h9) rfl dX7_testFor_14 ?_
    refine va_get (D := g.1) (ci := 4) (fs := fcS bS (bC 0) qS1) (v := .ref (bC 0)) (C := RX4) (T := TX4) (N := 2) hx hb htu hinX4 hown hK hP 6 rfl rfl 0 (by decide) k_1_150 (fun _ h9 => h9) rfl dX7_testFor_17 ?_
    refine lv_iconst (v := (-1 : Int32)) hx hb dX7_testFor_20 (by decide) ?_
    refine lv_iload_n hx hb dX7_testFor_21 rfl (lv_at hl 1 rfl) ?_
    obtain ⟨r8, hg9, hf⟩ := o1_at hf
    refine k_viP ⟨hx, hb, hml, hown, htu⟩ hK hP hD hS hA hG (c_X3_firstApart l g bRF nRF (bGF 0) (bBF 0) vRF_4 bC vC (-1 : Int32) x1 r8 hg9) (cwV 3 htu (gU_V mw_2_122 hcX3_firstApart) rfl rfl rfl hdX3_firstApart ⟨Nat.le_of_ble_eq_true rfl, Nat.le_of_ble_eq_true rfl⟩) (q0 := 18) (ci := 3) (fs := fcR bRF (bGF 0) (bBF 0) vRF_4) (q := (RX3, TX3, 5)) rfl rfl rfl (wr := (cF g bF qF0 (bS 0) qF2 (bRF 0) qF4 vF_3 ++ (cS g bS (bC 0) qS1 ++ (cL g bGF vGF_5 ++ (cL g bBF vBF_6))))) (w2 := cF g bF qF0 (bS 0) qF2 (bRF 0) qF4 vF_3 ++ (cS g bS (bC 0) qS1 ++ (cC g bC vC ++ (cR g bRF nRF (bGF 0) (bBF 0) vRF_4 ++ (cL g bGF vGF_5 ++ (cL g bBF vBF_6)))))) [18, 19, 20, 7, 8, 9, 10, 11, 12, 13, 14, 15, 16, 17] [0, 1, 2, 3, 4, 5, 6, 21, 22, 23, 24, 25, 26] [0, 1, 2, 3, 4, 5, 6, 16, 17, 18, 19, 20, 21, 22, 23, 24, 25, 26, 13, 14, 15, 7, 8, 9, 10, 11, 12] rfl rfl (by decide) (by decide) (by decide) rfl rfl (by decide) (As := [.ref (bC 0), .int (-1 : Int32), .int x1]) (rest := []) rfl rfl hl.1 (Nat.le_of_ble_eq_true rfl) dX7_testFor_22 (k1 := 0) (n1 := 0) rfl rfl ⟨Nat.zero_le _, Nat.zero_le _⟩ (fun H locs hP hD hS => ?_)
    obtain ⟨e10, e11, e12, e13, e14, e15⟩ := kp_6 hf
    rw [e12] at hP hD
    rw [e13] at hP hD
    rw [e14] at hP hD
    rw [e15] at hP hD
    exact k_iret hx hb hr hlocks hK hP hD hS e11 dX7_testFor_25
  rw [hH, hlo] at hW
  exact hW
abbrev rtX7_testFor : Room := { frames := 9, cells := 1, slots := 6, locals := 141 }
set_option maxHeartbeats 4000000 in
set_option maxRecDepth 100000 in
theorem t_X7_testFor (l : Launch) (hst : l.stackTraces = false) (g : Gx) (bF : Nat → Nat) (qF0 : Nat) (qF2 : Nat) (qF4 : Nat) (vF : Vs) (bS : Nat → Nat) (qS1 : Nat) (bC : Nat → Nat) (vC : Vs) (bRF : Nat → Nat) (nRF : Nat) (vRF : Vs) (bGF : Nat → Nat) (vGF : Vs) (bBF : Nat → Nat) (vBF : Vs) (x1 : Int32) (r : Int32) (vF1 : Vs) (vRF1 : Vs) (vGF1 : Vs) (vBF1 : Vs) (ek : Nat) (hf : f_X7_testFor vF vC nRF vRF vGF vBF x1 = some (ek, r, vF1, vRF1, vGF1, vBF1)) (hek : ¬ ek = 0) : CtXI l yX7_testFor wsX7_testFor rtX7_testFor g [.ref (bF 0), .int x1] (cF g bF qF0 (bS 0) qF2 (bRF 0) qF4 vF ++ (cS g bS (bC 0) qS1 ++ (cC g bC vC ++ (cR g bRF nRF (bGF 0) (bBF 0) vRF ++ (cL g bGF vGF ++ (cL g bBF vBF)))))) (cF g bF qF0 (bS 0) qF2 (bRF 0) qF4 vF1 ++ (cS g bS (bC 0) qS1 ++ (cC g bC vC ++ (cR g bRF nRF (bGF 0) (bBF 0) vRF1 ++ (cL g bGF vGF1 ++ (cL g bBF vBF1)))))) (exN ek) 1 6 := by
  unfold CtXI
  intro sz
  refine vx_ofW (cc := cX7_testFor) (maxL := 2) (ret := (some .int)) (by decide) rfl ?_
  intro p e s m args below meth c s₁ B hml hT hv
  obtain ⟨rfl, hsz, hP, hK, hD0, hG⟩ := hv
  have hx := B.exec
  have hb := B.bytes
  have hr := B.returns
  have hts := atoms_spec (ws := wsX7_testFor) B.pre
  have hown : s.vm.findClass RX7 = some m.cls := findClass_of_methodNamed B.named
  have hlocks := B.notSynchronized
  subst hsz
  have hD := hD0.self (sz := s.heap.size)
  generalize hAe : va_A (cF g bF qF0 (bS 0) qF2 (bRF 0) qF4 vF ++ (cS g bS (bC 0) qS1 ++ (cC g bC vC ++ (cR g bRF nRF (bGF 0) (bBF 0) vRF ++ (cL g bGF vGF ++ (cL g bBF vBF)))))) s.heap.size = A at hD hG ⊢
  have hA : ∀ q : Nat, s.heap.size ≤ q → A q := fun q h => by rw [← hAe]; exact Or.inr h
  clear hAe hD0
  have hS : va_S A s.heap s.heap [] := va_S.rf
  have hl := lv_entry ([.ref (bF 0), .int x1]) (n := 2) (Nat.le_of_ble_eq_true rfl)
  rw [lg_entry_eq]
  generalize (lg_sl ([.ref (bF 0), .int x1]) ++ List.replicate (2 - (lg_sl ([.ref (bF 0), .int x1])).length) Slot.unset).toArray = ls at hl ⊢
  have hl : lv_has ls 2 [(0, .ref (bF 0)), (1, .int x1)] := hl
  have htu : ∀ w ∈ UW, w.before _ s = true := fun w h => hts w (List.mem_cons_of_mem _ h)
  have k_2_21 := htu _ mw_2_21
  have k_2_19 := htu _ mw_2_19
  have k_1_150 := htu _ mw_1_150
  unfold f_X7_testFor at hf
  obtain ⟨H, hH⟩ : ∃ z, z = s.heap := ⟨_, rfl⟩
  obtain ⟨locs, hlo⟩ : ∃ z : List Loc, z = [] := ⟨_, rfl⟩
  have hS : va_S A s.heap H locs := by rw [hH, hlo]; exact hS
  rw [← hH] at hP
  have hW : W p l e (headSpec wsX7_testFor rtX7_testFor).room s m ([.ref (bF 0), .int x1] : List Value).toArray below meth c H locs 0 0 (vx_MQ below (nI0 A) (xE g A (cF g bF qF0 (bS 0) qF2 (bRF 0) qF4 vF1 ++ (cS g bS (bC 0) qS1 ++ (cC g bC vC ++ (cR g bRF nRF (bGF 0) (bBF 0) vRF1 ++ (cL g bGF vGF1 ++ (cL g bBF vBF1)))))) (exN ek)) ([.ref (bF 0), .int x1] : List Value).toArray s 1 6 A) (F0 m 0 ls []) := by
    refine lv_aload_n hx hb dX7_testFor_0 rfl (lv_at hl 0 rfl) ?_
    refine lv_iload_n hx hb dX7_testFor_1 rfl (lv_at hl 1 rfl) ?_
    obtain ⟨c1, hg2, hf⟩ := o1_at hf
    rcases Classical.em (¬ c1 = 0) with hc1 | hc1
    · have hf := it_f hf hc1
      obtain ⟨rfl, rfl, rfl, rfl, rfl, rfl⟩ := kp_6 hf
      exact kx_vvP ⟨hx, hb, hml, hown, htu⟩ hK hP hD hS hA hG (t_X7_checkFault l hst g bF qF0 qF2 (bRF 0) qF4 vF bS qS1 bC vC x1 c1 hg2 hc1) (cwV 1 htu (gU_V mw_4_169 hcX7_checkFault) rfl rfl rfl hdX7_checkFault ⟨Nat.le_of_ble_eq_true rfl, Nat.le_of_ble_eq_true rfl⟩) (q0 := 0) (ci := 7) (fs := fcF bF qF0 (bS 0) qF2 (bRF 0) qF4 vF) (q := (RX7, TX7, 12)) rfl rfl rfl (wr := (cR g bRF nRF (bGF 0) (bBF 0) vRF ++ (cL g bGF vGF ++ (cL g bBF vBF)))) (w2 := cF g bF qF0 (bS 0) qF2 (bRF 0) qF4 vF ++ (cS g bS (bC 0) qS1 ++ (cC g bC vC ++ (cR g bRF nRF (bGF 0) (bBF 0) vRF ++ (cL g bGF vGF ++ (cL g bBF vBF)))))) [0, 1, 2, 3, 4, 5, 6, 7, 8, 9, 10, 11, 12, 13, 14, 15, 16, 17] [18, 19, 20, 21, 22, 23, 24, 25, 26] [9, 10, 11, 12, 13, 14, 15, 16, 17, 18, 19, 20, 21, 22, 23, 24, 25, 26, 0, 1, 2, 3, 4, 5, 6, 7, 8] rfl rfl (by decide) (by decide) (by decide) rfl rfl (by decide) (As := [.int x1]) (rest := []) rfl rfl hl.1 (Nat.le_of_ble_eq_true rfl) dX7_testFor_2 ⟨Nat.le_refl _, Nat.le_refl _⟩ ⟨Nat.le_refl _, Nat.le_refl _⟩ hT hlocks
    have hc1 := Classical.not_not.mp hc1
    have hf := it_t hf hc1
    rw [hc1] at hg2
    refine k_vvP ⟨hx, hb, hml, hown, htu⟩ hK hP hD hS hA hG (c_X7_checkFault l g bF qF0 qF2 (bRF 0) qF4 vF bS qS1 bC vC x1 hg2) (cwV 1 htu (gU_V mw_4_169 hcX7_checkFault) rfl rfl rfl hdX7_checkFault ⟨Nat.le_of_ble_eq_true rfl, Nat.le_of_ble_eq_true rfl⟩) (q0 := 0) (ci := 7) (fs := fcF bF qF0 (bS 0) qF2 (bRF 0) qF4 vF) (q := (RX7, TX7, 12)) rfl rfl rfl (wr := (cR g bRF nRF (bGF 0) (bBF 0) vRF ++ (cL g bGF vGF ++ (cL g bBF vBF)))) (w2 := cF g bF qF0 (bS 0) qF2 (bRF 0) qF4 vF ++ (cS g bS (bC 0) qS1 ++ (cC g bC vC ++ (cR g bRF nRF (bGF 0) (bBF 0) vRF ++ (cL g bGF vGF ++ (cL g bBF vBF)))))) [0, 1, 2, 3, 4, 5, 6, 7, 8, 9, 10, 11, 12, 13, 14, 15, 16, 17] [18, 19, 20, 21, 22, 23, 24, 25, 26] [9, 10, 11, 12, 13, 14, 15, 16, 17, 18, 19, 20, 21, 22, 23, 24, 25, 26, 0, 1, 2, 3, 4, 5, 6, 7, 8] rfl rfl (by decide) (by decide) (by decide) rfl rfl (by decide) (As := [.int x1]) (rest := []) rfl rfl hl.1 (Nat.le_of_ble_eq_true rfl) dX7_testFor_2 (k1 := 0) (n1 := 0) rfl rfl ⟨Nat.zero_le _, Nat.zero_le _⟩ (fun H locs hP hD hS => ?_)
    refine lv_aload_n hx hb dX7_testFor_5 rfl (lv_at hl 0 rfl) ?_
    obtain ⟨vF_3, vRF_4, vGF_5, vBF_6, hg7, hf⟩ := o4_at hf
    refine k_vvW ⟨hx, hb, hml, hown, htu⟩ hK hP hD hS hA hG (c_X7_refreshFullRows l g bF qF0 qF2 qF4 vF bS qS1 bC vC bRF nRF vRF bGF vGF bBF vBF vF_3 vRF_4 vGF_5 vBF_6 hg7) (cwV 0 htu (gU_V mw_2_71 hcX7_refreshFullRows) rfl rfl rfl hdX7_refreshFullRows ⟨Nat.le_of_ble_eq_true rfl, Nat.le_of_ble_eq_true rfl⟩) (q0 := 0) (ci := 7) (fs := fcF bF qF0 (bS 0) qF2 (bRF 0) qF4 vF) (q := (RX7, TX7, 12)) rfl rfl rfl (As := []) (rest := []) rfl rfl hl.1 (Nat.le_of_ble_eq_true rfl) dX7_testFor_6 (k1 := 0) (n1 := 0) rfl rfl ⟨Nat.zero_le _, Nat.zero_le _⟩ (fun H locs hP hD hS => ?_)
    refine lv_aload_n hx hb dX7_testFor_9 rfl (lv_at hl 0 rfl) ?_
    refine va_get (D := g.1) (ci := 7) (fs := fcF bF qF0 (bS 0) qF2 (bRF 0) qF4 vF_3) (v := .ref (bRF 0)) (C := RX7) (T := TX7) (N := 12) hx hb htu hinX7 hown hK hP 0 rfl rfl 3 (by decide) k_2_21 (fun _ h9 => h9) rfl dX7_testFor_10 ?_
    refine lv_aload_n hx hb dX7_testFor_13 rfl (lv_at hl 0 rfl) ?_
    refine va_get (D := g.1) (ci := 7) (fs := fcF bF qF0 (bS 0) qF2 (bRF 0) qF4 vF_3) (v := .ref (bS 0)) (C := RX7) (T := TX7) (N := 12) hx hb htu hinX7 hown hK hP 0 rfl rfl 1 (by decide) k_2_19 (fun _ h9 => h9) rfl dX7_testFor_14 ?_
    refine va_get (D := g.1) (ci := 4) (fs := fcS bS (bC 0) qS1) (v := .ref (bC 0)) (C := RX4) (T := TX4) (N := 2) hx hb htu hinX4 hown hK hP 6 rfl rfl 0 (by decide) k_1_150 (fun _ h9 => h9) rfl dX7_testFor_17 ?_
    refine lv_iconst (v := (-1 : Int32)) hx hb dX7_testFor_20 (by decide) ?_
    refine lv_iload_n hx hb dX7_testFor_21 rfl (lv_at hl 1 rfl) ?_
    obtain ⟨r8, hg9, hf⟩ := o1_at hf
    refine k_viP ⟨hx, hb, hml, hown, htu⟩ hK hP hD hS hA hG (c_X3_firstApart l g bRF nRF (bGF 0) (bBF 0) vRF_4 bC vC (-1 : Int32) x1 r8 hg9) (cwV 3 htu (gU_V mw_2_122 hcX3_firstApart) rfl rfl rfl hdX3_firstApart ⟨Nat.le_of_ble_eq_true rfl, Nat.le_of_ble_eq_true rfl⟩) (q0 := 18) (ci := 3) (fs := fcR bRF (bGF 0) (bBF 0) vRF_4) (q := (RX3, TX3, 5)) rfl rfl rfl (wr := (cF g bF qF0 (bS 0) qF2 (bRF 0) qF4 vF_3 ++ (cS g bS (bC 0) qS1 ++ (cL g bGF vGF_5 ++ (cL g bBF vBF_6))))) (w2 := cF g bF qF0 (bS 0) qF2 (bRF 0) qF4 vF_3 ++ (cS g bS (bC 0) qS1 ++ (cC g bC vC ++ (cR g bRF nRF (bGF 0) (bBF 0) vRF_4 ++ (cL g bGF vGF_5 ++ (cL g bBF vBF_6)))))) [18, 19, 20, 7, 8, 9, 10, 11, 12, 13, 14, 15, 16, 17] [0, 1, 2, 3, 4, 5, 6, 21, 22, 23, 24, 25, 26] [0, 1, 2, 3, 4, 5, 6, 16, 17, 18, 19, 20, 21, 22, 23, 24, 25, 26, 13, 14, 15, 7, 8, 9, 10, 11, 12] rfl rfl (by decide) (by decide) (by decide) rfl rfl (by decide) (As := [.ref (bC 0), .int (-1 : Int32), .int x1]) (rest := []) rfl rfl hl.1 (Nat.le_of_ble_eq_true rfl) dX7_testFor_22 (k1 := 0) (n1 := 0) rfl rfl ⟨Nat.zero_le _, Nat.zero_le _⟩ (fun H locs hP hD hS => ?_)
    exact absurd (kp_6 hf).1.symm hek
  rw [hH, hlo] at hW
  exact hW
def f_X7_testBetween (vF : Vs) (vC : Vs) (nRF : Nat) (vRF : Vs) (vGF : Vs) (vBF : Vs) (x1 : Int32) (x2 : Int32) : Option (Nat × Int32 × Vs × Vs × Vs × Vs) :=
  o1 (f_X7_checkFault vF vC x1) (fun (c1 : Nat) => if c1 = 0 then (o1 (f_X7_checkFault vF vC x2) (fun (c3 : Nat) => if c3 = 0 then (o4 (f_X7_refreshFullRows vF vC nRF vRF vGF vBF) (fun (vF_5 : Vs) (vRF_6 : Vs) (vGF_7 : Vs) (vBF_8 : Vs) => o1 (f_X3_firstApart nRF vRF_6 vC x1 x2) (fun (r10 : Int32) => some (0, r10, vF_5, vRF_6, vGF_7, vBF_8)))) else some (c3, (0 : Int32), vF, vRF, vGF, vBF))) else some (c1, (0 : Int32), vF, vRF, vGF, vBF))
abbrev wsX7_testBetween : List Cond := .code yX7_testBetween cX7_testBetween 3 (some .int) :: UW
abbrev rmX7_testBetween : Room := { frames := 4, cells := 0, slots := 0, locals := 106 }
set_option maxHeartbeats 4000000 in
set_option maxRecDepth 100000 in
theorem c_X7_testBetween (l : Launch) (g : Gx) (bF : Nat → Nat) (qF0 : Nat) (qF2 : Nat) (qF4 : Nat) (vF : Vs) (bS : Nat → Nat) (qS1 : Nat) (bC : Nat → Nat) (vC : Vs) (bRF : Nat → Nat) (nRF : Nat) (vRF : Vs) (bGF : Nat → Nat) (vGF : Vs) (bBF : Nat → Nat) (vBF : Vs) (x1 : Int32) (x2 : Int32) (r : Int32) (vF1 : Vs) (vRF1 : Vs) (vGF1 : Vs) (vBF1 : Vs) (hf : f_X7_testBetween vF vC nRF vRF vGF vBF x1 x2 = some (0, r, vF1, vRF1, vGF1, vBF1)) : CtI l yX7_testBetween wsX7_testBetween rmX7_testBetween g [.ref (bF 0), .int x1, .int x2] (cF g bF qF0 (bS 0) qF2 (bRF 0) qF4 vF ++ (cS g bS (bC 0) qS1 ++ (cC g bC vC ++ (cR g bRF nRF (bGF 0) (bBF 0) vRF ++ (cL g bGF vGF ++ (cL g bBF vBF)))))) (cF g bF qF0 (bS 0) qF2 (bRF 0) qF4 vF1 ++ (cS g bS (bC 0) qS1 ++ (cC g bC vC ++ (cR g bRF nRF (bGF 0) (bBF 0) vRF1 ++ (cL g bGF vGF1 ++ (cL g bBF vBF1)))))) r 0 0 := by
  unfold CtI
  intro sz
  refine Met.ofW (cc := cX7_testBetween) (maxL := 3) (ret := (some .int)) (by decide) rfl ?_
  intro p e s m args below meth c s₁ B hml hv
  obtain ⟨rfl, hsz, hP, hK, hD0, hG⟩ := hv
  have hx := B.exec
  have hb := B.bytes
  have hr := B.returns
  have hts := atoms_spec (ws := wsX7_testBetween) B.pre
  have hown : s.vm.findClass RX7 = some m.cls := findClass_of_methodNamed B.named
  have hlocks := B.notSynchronized
  subst hsz
  have hD := hD0.self (sz := s.heap.size)
  generalize hAe : va_A (cF g bF qF0 (bS 0) qF2 (bRF 0) qF4 vF ++ (cS g bS (bC 0) qS1 ++ (cC g bC vC ++ (cR g bRF nRF (bGF 0) (bBF 0) vRF ++ (cL g bGF vGF ++ (cL g bBF vBF)))))) s.heap.size = A at hD hG ⊢
  have hA : ∀ q : Nat, s.heap.size ≤ q → A q := fun q h => by rw [← hAe]; exact Or.inr h
  clear hAe hD0
  have hS : va_S A s.heap s.heap [] := va_S.rf
  have hl := lv_entry ([.ref (bF 0), .int x1, .int x2]) (n := 3) (Nat.le_of_ble_eq_true rfl)
  rw [lg_entry_eq]
  generalize (lg_sl ([.ref (bF 0), .int x1, .int x2]) ++ List.replicate (3 - (lg_sl ([.ref (bF 0), .int x1, .int x2])).length) Slot.unset).toArray = ls at hl ⊢
  have hl : lv_has ls 3 [(0, .ref (bF 0)), (1, .int x1), (2, .int x2)] := hl
  have htu : ∀ w ∈ UW, w.before _ s = true := fun w h => hts w (List.mem_cons_of_mem _ h)
  have k_2_21 := htu _ mw_2_21
  have k_2_19 := htu _ mw_2_19
  have k_1_150 := htu _ mw_1_150
  unfold f_X7_testBetween at hf
  obtain ⟨H, hH⟩ : ∃ z, z = s.heap := ⟨_, rfl⟩
  obtain ⟨locs, hlo⟩ : ∃ z : List Loc, z = [] := ⟨_, rfl⟩
  have hS : va_S A s.heap H locs := by rw [hH, hlo]; exact hS
  rw [← hH] at hP
  have hW : W p l e (headSpec wsX7_testBetween rmX7_testBetween).room s m ([.ref (bF 0), .int x1, .int x2] : List Value).toArray below meth c H locs 0 0 (MQ below (qI g A (cF g bF qF0 (bS 0) qF2 (bRF 0) qF4 vF1 ++ (cS g bS (bC 0) qS1 ++ (cC g bC vC ++ (cR g bRF nRF (bGF 0) (bBF 0) vRF1 ++ (cL g bGF vGF1 ++ (cL g bBF vBF1)))))) r) ([.ref (bF 0), .int x1, .int x2] : List Value).toArray s 0 0 A) (F0 m 0 ls []) := by
    refine lv_aload_n hx hb dX7_testBetween_0 rfl (lv_at hl 0 rfl) ?_
    refine lv_iload_n hx hb dX7_testBetween_1 rfl (lv_at hl 1 rfl) ?_
    obtain ⟨c1, hg2, hf⟩ := o1_at hf
    have hc1 : c1 = 0 := Classical.byContradiction (fun h9 => h9 (kp_6 (it_f hf h9)).1)
    have hf := it_t hf hc1
    rw [hc1] at hg2
    refine k_vvP ⟨hx, hb, hml, hown, htu⟩ hK hP hD hS hA hG (c_X7_checkFault l g bF qF0 qF2 (bRF 0) qF4 vF bS qS1 bC vC x1 hg2) (cwV 1 htu (gU_V mw_4_169 hcX7_checkFault) rfl rfl rfl hdX7_checkFault ⟨Nat.le_of_ble_eq_true rfl, Nat.le_of_ble_eq_true rfl⟩) (q0 := 0) (ci := 7) (fs := fcF bF qF0 (bS 0) qF2 (bRF 0) qF4 vF) (q := (RX7, TX7, 12)) rfl rfl rfl (wr := (cR g bRF nRF (bGF 0) (bBF 0) vRF ++ (cL g bGF vGF ++ (cL g bBF vBF)))) (w2 := cF g bF qF0 (bS 0) qF2 (bRF 0) qF4 vF ++ (cS g bS (bC 0) qS1 ++ (cC g bC vC ++ (cR g bRF nRF (bGF 0) (bBF 0) vRF ++ (cL g bGF vGF ++ (cL g bBF vBF)))))) [0, 1, 2, 3, 4, 5, 6, 7, 8, 9, 10, 11, 12, 13, 14, 15, 16, 17] [18, 19, 20, 21, 22, 23, 24, 25, 26] [9, 10, 11, 12, 13, 14, 15, 16, 17, 18, 19, 20, 21, 22, 23, 24, 25, 26, 0, 1, 2, 3, 4, 5, 6, 7, 8] rfl rfl (by decide) (by decide) (by decide) rfl rfl (by decide) (As := [.int x1]) (rest := []) rfl rfl hl.1 (Nat.le_of_ble_eq_true rfl) dX7_testBetween_2 (k1 := 0) (n1 := 0) rfl rfl ⟨Nat.zero_le _, Nat.zero_le _⟩ (fun H locs hP hD hS => ?_)
    refine lv_aload_n hx hb dX7_testBetween_5 rfl (lv_at hl 0 rfl) ?_
    refine lv_iload_n hx hb dX7_testBetween_6 rfl (lv_at hl 2 rfl) ?_
    obtain ⟨c3, hg4, hf⟩ := o1_at hf
    have hc3 : c3 = 0 := Classical.byContradiction (fun h9 => h9 (kp_6 (it_f hf h9)).1)
    have hf := it_t hf hc3
    rw [hc3] at hg4
    refine k_vvP ⟨hx, hb, hml, hown, htu⟩ hK hP hD hS hA hG (c_X7_checkFault l g bF qF0 qF2 (bRF 0) qF4 vF bS qS1 bC vC x2 hg4) (cwV 1 htu (gU_V mw_4_169 hcX7_checkFault) rfl rfl rfl hdX7_checkFault ⟨Nat.le_of_ble_eq_true rfl, Nat.le_of_ble_eq_true rfl⟩) (q0 := 0) (ci := 7) (fs := fcF bF qF0 (bS 0) qF2 (bRF 0) qF4 vF) (q := (RX7, TX7, 12)) rfl rfl rfl (wr := (cR g bRF nRF (bGF 0) (bBF 0) vRF ++ (cL g bGF vGF ++ (cL g bBF vBF)))) (w2 := cF g bF qF0 (bS 0) qF2 (bRF 0) qF4 vF ++ (cS g bS (bC 0) qS1 ++ (cC g bC vC ++ (cR g bRF nRF (bGF 0) (bBF 0) vRF ++ (cL g bGF vGF ++ (cL g bBF vBF)))))) [0, 1, 2, 3, 4, 5, 6, 7, 8, 9, 10, 11, 12, 13, 14, 15, 16, 17] [18, 19, 20, 21, 22, 23, 24, 25, 26] [9, 10, 11, 12, 13, 14, 15, 16, 17, 18, 19, 20, 21, 22, 23, 24, 25, 26, 0, 1, 2, 3, 4, 5, 6, 7, 8] rfl rfl (by decide) (by decide) (by decide) rfl rfl (by decide) (As := [.int x2]) (rest := []) rfl rfl hl.1 (Nat.le_of_ble_eq_true rfl) dX7_testBetween_7 (k1 := 0) (n1 := 0) rfl rfl ⟨Nat.zero_le _, Nat.zero_le _⟩ (fun H locs hP hD hS => ?_)
    refine lv_aload_n hx hb dX7_testBetween_10 rfl (lv_at hl 0 rfl) ?_
    obtain ⟨vF_5, vRF_6, vGF_7, vBF_8, hg9, hf⟩ := o4_at hf
    refine k_vvW ⟨hx, hb, hml, hown, htu⟩ hK hP hD hS hA hG (c_X7_refreshFullRows l g bF qF0 qF2 qF4 vF bS qS1 bC vC bRF nRF vRF bGF vGF bBF vBF vF_5 vRF_6 vGF_7 vBF_8 hg9) (cwV 0 htu (gU_V mw_2_71 hcX7_refreshFullRows) rfl rfl rfl hdX7_refreshFullRows ⟨Nat.le_of_ble_eq_true rfl, Nat.le_of_ble_eq_true rfl⟩) (q0 := 0) (ci := 7) (fs := fcF bF qF0 (bS 0) qF2 (bRF 0) qF4 vF) (q := (RX7, TX7, 12)) rfl rfl rfl (As := []) (rest := []) rfl rfl hl.1 (Nat.le_of_ble_eq_true rfl) dX7_testBetween_11 (k1 := 0) (n1 := 0) rfl rfl ⟨Nat.zero_le _, Nat.zero_le _⟩ (fun H locs hP hD hS => ?_)
    refine lv_aload_n hx hb dX7_testBetween_14 rfl (lv_at hl 0 rfl) ?_
    refine va_get (D := g.1) (ci := 7) (fs := fcF bF qF0 (bS 0) qF2 (bRF 0) qF4 vF_5) (v := .ref (bRF 0)) (C := RX7) (T := TX7) (N := 12) hx hb htu hinX7 hown hK hP 0 rfl rfl 3 (by decide) k_2_21 (fun _ h9 => h9) rfl dX7_testBetween_15 ?_
    refine lv_aload_n hx hb dX7_testBetween_18 rfl (lv_at hl 0 rfl) ?_
    refine va_get (D := g.1) (ci := 7) (fs := fcF bF qF0 (bS 0) qF2 (bRF 0) qF4 vF_5) (v := .ref (bS 0)) (C := RX7) (T := TX7) (N := 12) hx hb htu hinX7 hown hK hP 0 rfl rfl 1 (by decide) k_2_19 (fun _ h9 => h9) rfl dX7_testBetween_19 ?_
    refine va_get (D := g.1) (ci := 4) (fs := fcS bS (bC 0) qS1) (v := .ref (bC 0)) (C := RX4) (T := TX4) (N := 2) hx hb htu hinX4 hown hK hP 6 rfl rfl 0 (by decide) k_1_150 (fun _ h9 => h9) rfl dX7_testBetween_22 ?_
    refine lv_iload_n hx hb dX7_testBetween_25 rfl (lv_at hl 1 rfl) ?_
    refine lv_iload_n hx hb dX7_testBetween_26 rfl (lv_at hl 2 rfl) ?_
    obtain ⟨r10, hg11, hf⟩ := o1_at hf
    refine k_viP ⟨hx, hb, hml, hown, htu⟩ hK hP hD hS hA hG (c_X3_firstApart l g bRF nRF (bGF 0) (bBF 0) vRF_6 bC vC x1 x2 r10 hg11) (cwV 3 htu (gU_V mw_2_122 hcX3_firstApart) rfl rfl rfl hdX3_firstApart ⟨Nat.le_of_ble_eq_true rfl, Nat.le_of_ble_eq_true rfl⟩) (q0 := 18) (ci := 3) (fs := fcR bRF (bGF 0) (bBF 0) vRF_6) (q := (RX3, TX3, 5)) rfl rfl rfl (wr := (cF g bF qF0 (bS 0) qF2 (bRF 0) qF4 vF_5 ++ (cS g bS (bC 0) qS1 ++ (cL g bGF vGF_7 ++ (cL g bBF vBF_8))))) (w2 := cF g bF qF0 (bS 0) qF2 (bRF 0) qF4 vF_5 ++ (cS g bS (bC 0) qS1 ++ (cC g bC vC ++ (cR g bRF nRF (bGF 0) (bBF 0) vRF_6 ++ (cL g bGF vGF_7 ++ (cL g bBF vBF_8)))))) [18, 19, 20, 7, 8, 9, 10, 11, 12, 13, 14, 15, 16, 17] [0, 1, 2, 3, 4, 5, 6, 21, 22, 23, 24, 25, 26] [0, 1, 2, 3, 4, 5, 6, 16, 17, 18, 19, 20, 21, 22, 23, 24, 25, 26, 13, 14, 15, 7, 8, 9, 10, 11, 12] rfl rfl (by decide) (by decide) (by decide) rfl rfl (by decide) (As := [.ref (bC 0), .int x1, .int x2]) (rest := []) rfl rfl hl.1 (Nat.le_of_ble_eq_true rfl) dX7_testBetween_27 (k1 := 0) (n1 := 0) rfl rfl ⟨Nat.zero_le _, Nat.zero_le _⟩ (fun H locs hP hD hS => ?_)
    obtain ⟨e12, e13, e14, e15, e16, e17⟩ := kp_6 hf
    rw [e14] at hP hD
    rw [e15] at hP hD
    rw [e16] at hP hD
    rw [e17] at hP hD
    exact k_iret hx hb hr hlocks hK hP hD hS e13 dX7_testBetween_30
  rw [hH, hlo] at hW
  exact hW
abbrev rtX7_testBetween : Room := { frames := 9, cells := 1, slots := 6, locals := 141 }
set_option maxHeartbeats 4000000 in
set_option maxRecDepth 100000 in
theorem t_X7_testBetween (l : Launch) (hst : l.stackTraces = false) (g : Gx) (bF : Nat → Nat) (qF0 : Nat) (qF2 : Nat) (qF4 : Nat) (vF : Vs) (bS : Nat → Nat) (qS1 : Nat) (bC : Nat → Nat) (vC : Vs) (bRF : Nat → Nat) (nRF : Nat) (vRF : Vs) (bGF : Nat → Nat) (vGF : Vs) (bBF : Nat → Nat) (vBF : Vs) (x1 : Int32) (x2 : Int32) (r : Int32) (vF1 : Vs) (vRF1 : Vs) (vGF1 : Vs) (vBF1 : Vs) (ek : Nat) (hf : f_X7_testBetween vF vC nRF vRF vGF vBF x1 x2 = some (ek, r, vF1, vRF1, vGF1, vBF1)) (hek : ¬ ek = 0) : CtXI l yX7_testBetween wsX7_testBetween rtX7_testBetween g [.ref (bF 0), .int x1, .int x2] (cF g bF qF0 (bS 0) qF2 (bRF 0) qF4 vF ++ (cS g bS (bC 0) qS1 ++ (cC g bC vC ++ (cR g bRF nRF (bGF 0) (bBF 0) vRF ++ (cL g bGF vGF ++ (cL g bBF vBF)))))) (cF g bF qF0 (bS 0) qF2 (bRF 0) qF4 vF1 ++ (cS g bS (bC 0) qS1 ++ (cC g bC vC ++ (cR g bRF nRF (bGF 0) (bBF 0) vRF1 ++ (cL g bGF vGF1 ++ (cL g bBF vBF1)))))) (exN ek) 1 6 := by
  unfold CtXI
  intro sz
  refine vx_ofW (cc := cX7_testBetween) (maxL := 3) (ret := (some .int)) (by decide) rfl ?_
  intro p e s m args below meth c s₁ B hml hT hv
  obtain ⟨rfl, hsz, hP, hK, hD0, hG⟩ := hv
  have hx := B.exec
  have hb := B.bytes
  have hr := B.returns
  have hts := atoms_spec (ws := wsX7_testBetween) B.pre
  have hown : s.vm.findClass RX7 = some m.cls := findClass_of_methodNamed B.named
  have hlocks := B.notSynchronized
  subst hsz
  have hD := hD0.self (sz := s.heap.size)
  generalize hAe : va_A (cF g bF qF0 (bS 0) qF2 (bRF 0) qF4 vF ++ (cS g bS (bC 0) qS1 ++ (cC g bC vC ++ (cR g bRF nRF (bGF 0) (bBF 0) vRF ++ (cL g bGF vGF ++ (cL g bBF vBF)))))) s.heap.size = A at hD hG ⊢
  have hA : ∀ q : Nat, s.heap.size ≤ q → A q := fun q h => by rw [← hAe]; exact Or.inr h
  clear hAe hD0
  have hS : va_S A s.heap s.heap [] := va_S.rf
  have hl := lv_entry ([.ref (bF 0), .int x1, .int x2]) (n := 3) (Nat.le_of_ble_eq_true rfl)
  rw [lg_entry_eq]
  generalize (lg_sl ([.ref (bF 0), .int x1, .int x2]) ++ List.replicate (3 - (lg_sl ([.ref (bF 0), .int x1, .int x2])).length) Slot.unset).toArray = ls at hl ⊢
  have hl : lv_has ls 3 [(0, .ref (bF 0)), (1, .int x1), (2, .int x2)] := hl
  have htu : ∀ w ∈ UW, w.before _ s = true := fun w h => hts w (List.mem_cons_of_mem _ h)
  have k_2_21 := htu _ mw_2_21
  have k_2_19 := htu _ mw_2_19
  have k_1_150 := htu _ mw_1_150
  unfold f_X7_testBetween at hf
  obtain ⟨H, hH⟩ : ∃ z, z = s.heap := ⟨_, rfl⟩
  obtain ⟨locs, hlo⟩ : ∃ z : List Loc, z = [] := ⟨_, rfl⟩
  have hS : va_S A s.heap H locs := by rw [hH, hlo]; exact hS
  rw [← hH] at hP
  have hW : W p l e (headSpec wsX7_testBetween rtX7_testBetween).room s m ([.ref (bF 0), .int x1, .int x2] : List Value).toArray below meth c H locs 0 0 (vx_MQ below (nI0 A) (xE g A (cF g bF qF0 (bS 0) qF2 (bRF 0) qF4 vF1 ++ (cS g bS (bC 0) qS1 ++ (cC g bC vC ++ (cR g bRF nRF (bGF 0) (bBF 0) vRF1 ++ (cL g bGF vGF1 ++ (cL g bBF vBF1)))))) (exN ek)) ([.ref (bF 0), .int x1, .int x2] : List Value).toArray s 1 6 A) (F0 m 0 ls []) := by
    refine lv_aload_n hx hb dX7_testBetween_0 rfl (lv_at hl 0 rfl) ?_
    refine lv_iload_n hx hb dX7_testBetween_1 rfl (lv_at hl 1 rfl) ?_
    obtain ⟨c1, hg2, hf⟩ := o1_at hf
    rcases Classical.em (¬ c1 = 0) with hc1 | hc1
    · have hf := it_f hf hc1
      obtain ⟨rfl, rfl, rfl, rfl, rfl, rfl⟩ := kp_6 hf
      exact kx_vvP ⟨hx, hb, hml, hown, htu⟩ hK hP hD hS hA hG (t_X7_checkFault l hst g bF qF0 qF2 (bRF 0) qF4 vF bS qS1 bC vC x1 c1 hg2 hc1) (cwV 1 htu (gU_V mw_4_169 hcX7_checkFault) rfl rfl rfl hdX7_checkFault ⟨Nat.le_of_ble_eq_true rfl, Nat.le_of_ble_eq_true rfl⟩) (q0 := 0) (ci := 7) (fs := fcF bF qF0 (bS 0) qF2 (bRF 0) qF4 vF) (q := (RX7, TX7, 12)) rfl rfl rfl (wr := (cR g bRF nRF (bGF 0) (bBF 0) vRF ++ (cL g bGF vGF ++ (cL g bBF vBF)))) (w2 := cF g bF qF0 (bS 0) qF2 (bRF 0) qF4 vF ++ (cS g bS (bC 0) qS1 ++ (cC g bC vC ++ (cR g bRF nRF (bGF 0) (bBF 0) vRF ++ (cL g bGF vGF ++ (cL g bBF vBF)))))) [0, 1, 2, 3, 4, 5, 6, 7, 8, 9, 10, 11, 12, 13, 14, 15, 16, 17] [18, 19, 20, 21, 22, 23, 24, 25, 26] [9, 10, 11, 12, 13, 14, 15, 16, 17, 18, 19, 20, 21, 22, 23, 24, 25, 26, 0, 1, 2, 3, 4, 5, 6, 7, 8] rfl rfl (by decide) (by decide) (by decide) rfl rfl (by decide) (As := [.int x1]) (rest := []) rfl rfl hl.1 (Nat.le_of_ble_eq_true rfl) dX7_testBetween_2 ⟨Nat.le_refl _, Nat.le_refl _⟩ ⟨Nat.le_refl _, Nat.le_refl _⟩ hT hlocks
    have hc1 := Classical.not_not.mp hc1
    have hf := it_t hf hc1
    rw [hc1] at hg2
    refine k_vvP ⟨hx, hb, hml, hown, htu⟩ hK hP hD hS hA hG (c_X7_checkFault l g bF qF0 qF2 (bRF 0) qF4 vF bS qS1 bC vC x1 hg2) (cwV 1 htu (gU_V mw_4_169 hcX7_checkFault) rfl rfl rfl hdX7_checkFault ⟨Nat.le_of_ble_eq_true rfl, Nat.le_of_ble_eq_true rfl⟩) (q0 := 0) (ci := 7) (fs := fcF bF qF0 (bS 0) qF2 (bRF 0) qF4 vF) (q := (RX7, TX7, 12)) rfl rfl rfl (wr := (cR g bRF nRF (bGF 0) (bBF 0) vRF ++ (cL g bGF vGF ++ (cL g bBF vBF)))) (w2 := cF g bF qF0 (bS 0) qF2 (bRF 0) qF4 vF ++ (cS g bS (bC 0) qS1 ++ (cC g bC vC ++ (cR g bRF nRF (bGF 0) (bBF 0) vRF ++ (cL g bGF vGF ++ (cL g bBF vBF)))))) [0, 1, 2, 3, 4, 5, 6, 7, 8, 9, 10, 11, 12, 13, 14, 15, 16, 17] [18, 19, 20, 21, 22, 23, 24, 25, 26] [9, 10, 11, 12, 13, 14, 15, 16, 17, 18, 19, 20, 21, 22, 23, 24, 25, 26, 0, 1, 2, 3, 4, 5, 6, 7, 8] rfl rfl (by decide) (by decide) (by decide) rfl rfl (by decide) (As := [.int x1]) (rest := []) rfl rfl hl.1 (Nat.le_of_ble_eq_true rfl) dX7_testBetween_2 (k1 := 0) (n1 := 0) rfl rfl ⟨Nat.zero_le _, Nat.zero_le _⟩ (fun H locs hP hD hS => ?_)
    refine lv_aload_n hx hb dX7_testBetween_5 rfl (lv_at hl 0 rfl) ?_
    refine lv_iload_n hx hb dX7_testBetween_6 rfl (lv_at hl 2 rfl) ?_
    obtain ⟨c3, hg4, hf⟩ := o1_at hf
    rcases Classical.em (¬ c3 = 0) with hc3 | hc3
    · have hf := it_f hf hc3
      obtain ⟨rfl, rfl, rfl, rfl, rfl, rfl⟩ := kp_6 hf
      exact kx_vvP ⟨hx, hb, hml, hown, htu⟩ hK hP hD hS hA hG (t_X7_checkFault l hst g bF qF0 qF2 (bRF 0) qF4 vF bS qS1 bC vC x2 c3 hg4 hc3) (cwV 1 htu (gU_V mw_4_169 hcX7_checkFault) rfl rfl rfl hdX7_checkFault ⟨Nat.le_of_ble_eq_true rfl, Nat.le_of_ble_eq_true rfl⟩) (q0 := 0) (ci := 7) (fs := fcF bF qF0 (bS 0) qF2 (bRF 0) qF4 vF) (q := (RX7, TX7, 12)) rfl rfl rfl (wr := (cR g bRF nRF (bGF 0) (bBF 0) vRF ++ (cL g bGF vGF ++ (cL g bBF vBF)))) (w2 := cF g bF qF0 (bS 0) qF2 (bRF 0) qF4 vF ++ (cS g bS (bC 0) qS1 ++ (cC g bC vC ++ (cR g bRF nRF (bGF 0) (bBF 0) vRF ++ (cL g bGF vGF ++ (cL g bBF vBF)))))) [0, 1, 2, 3, 4, 5, 6, 7, 8, 9, 10, 11, 12, 13, 14, 15, 16, 17] [18, 19, 20, 21, 22, 23, 24, 25, 26] [9, 10, 11, 12, 13, 14, 15, 16, 17, 18, 19, 20, 21, 22, 23, 24, 25, 26, 0, 1, 2, 3, 4, 5, 6, 7, 8] rfl rfl (by decide) (by decide) (by decide) rfl rfl (by decide) (As := [.int x2]) (rest := []) rfl rfl hl.1 (Nat.le_of_ble_eq_true rfl) dX7_testBetween_7 ⟨Nat.le_refl _, Nat.le_refl _⟩ ⟨Nat.le_refl _, Nat.le_refl _⟩ hT hlocks
    have hc3 := Classical.not_not.mp hc3
    have hf := it_t hf hc3
    rw [hc3] at hg4
    refine k_vvP ⟨hx, hb, hml, hown, htu⟩ hK hP hD hS hA hG (c_X7_checkFault l g bF qF0 qF2 (bRF 0) qF4 vF bS qS1 bC vC x2 hg4) (cwV 1 htu (gU_V mw_4_169 hcX7_checkFault) rfl rfl rfl hdX7_checkFault ⟨Nat.le_of_ble_eq_true rfl, Nat.le_of_ble_eq_true rfl⟩) (q0 := 0) (ci := 7) (fs := fcF bF qF0 (bS 0) qF2 (bRF 0) qF4 vF) (q := (RX7, TX7, 12)) rfl rfl rfl (wr := (cR g bRF nRF (bGF 0) (bBF 0) vRF ++ (cL g bGF vGF ++ (cL g bBF vBF)))) (w2 := cF g bF qF0 (bS 0) qF2 (bRF 0) qF4 vF ++ (cS g bS (bC 0) qS1 ++ (cC g bC vC ++ (cR g bRF nRF (bGF 0) (bBF 0) vRF ++ (cL g bGF vGF ++ (cL g bBF vBF)))))) [0, 1, 2, 3, 4, 5, 6, 7, 8, 9, 10, 11, 12, 13, 14, 15, 16, 17] [18, 19, 20, 21, 22, 23, 24, 25, 26] [9, 10, 11, 12, 13, 14, 15, 16, 17, 18, 19, 20, 21, 22, 23, 24, 25, 26, 0, 1, 2, 3, 4, 5, 6, 7, 8] rfl rfl (by decide) (by decide) (by decide) rfl rfl (by decide) (As := [.int x2]) (rest := []) rfl rfl hl.1 (Nat.le_of_ble_eq_true rfl) dX7_testBetween_7 (k1 := 0) (n1 := 0) rfl rfl ⟨Nat.zero_le _, Nat.zero_le _⟩ (fun H locs hP hD hS => ?_)
    refine lv_aload_n hx hb dX7_testBetween_10 rfl (lv_at hl 0 rfl) ?_
    obtain ⟨vF_5, vRF_6, vGF_7, vBF_8, hg9, hf⟩ := o4_at hf
    refine k_vvW ⟨hx, hb, hml, hown, htu⟩ hK hP hD hS hA hG (c_X7_refreshFullRows l g bF qF0 qF2 qF4 vF bS qS1 bC vC bRF nRF vRF bGF vGF bBF vBF vF_5 vRF_6 vGF_7 vBF_8 hg9) (cwV 0 htu (gU_V mw_2_71 hcX7_refreshFullRows) rfl rfl rfl hdX7_refreshFullRows ⟨Nat.le_of_ble_eq_true rfl, Nat.le_of_ble_eq_true rfl⟩) (q0 := 0) (ci := 7) (fs := fcF bF qF0 (bS 0) qF2 (bRF 0) qF4 vF) (q := (RX7, TX7, 12)) rfl rfl rfl (As := []) (rest := []) rfl rfl hl.1 (Nat.le_of_ble_eq_true rfl) dX7_testBetween_11 (k1 := 0) (n1 := 0) rfl rfl ⟨Nat.zero_le _, Nat.zero_le _⟩ (fun H locs hP hD hS => ?_)
    refine lv_aload_n hx hb dX7_testBetween_14 rfl (lv_at hl 0 rfl) ?_
    refine va_get (D := g.1) (ci := 7) (fs := fcF bF qF0 (bS 0) qF2 (bRF 0) qF4 vF_5) (v := .ref (bRF 0)) (C := RX7) (T := TX7) (N := 12) hx hb htu hinX7 hown hK hP 0 rfl rfl 3 (by decide) k_2_21 (fun _ h9 => h9) rfl dX7_testBetween_15 ?_
    refine lv_aload_n hx hb dX7_testBetween_18 rfl (lv_at hl 0 rfl) ?_
    refine va_get (D := g.1) (ci := 7) (fs := fcF bF qF0 (bS 0) qF2 (bRF 0) qF4 vF_5) (v := .ref (bS 0)) (C := RX7) (T := TX7) (N := 12) hx hb htu hinX7 hown hK hP 0 rfl rfl 1 (by decide) k_2_19 (fun _ h9 => h9) rfl dX7_testBetween_19 ?_
    refine va_get (D := g.1) (ci := 4) (fs := fcS bS (bC 0) qS1) (v := .ref (bC 0)) (C := RX4) (T := TX4) (N := 2) hx hb htu hinX4 hown hK hP 6 rfl rfl 0 (by decide) k_1_150 (fun _ h9 => h9) rfl dX7_testBetween_22 ?_
    refine lv_iload_n hx hb dX7_testBetween_25 rfl (lv_at hl 1 rfl) ?_
    refine lv_iload_n hx hb dX7_testBetween_26 rfl (lv_at hl 2 rfl) ?_
    obtain ⟨r10, hg11, hf⟩ := o1_at hf
    refine k_viP ⟨hx, hb, hml, hown, htu⟩ hK hP hD hS hA hG (c_X3_firstApart l g bRF nRF (bGF 0) (bBF 0) vRF_6 bC vC x1 x2 r10 hg11) (cwV 3 htu (gU_V mw_2_122 hcX3_firstApart) rfl rfl rfl hdX3_firstApart ⟨Nat.le_of_ble_eq_true rfl, Nat.le_of_ble_eq_true rfl⟩) (q0 := 18) (ci := 3) (fs := fcR bRF (bGF 0) (bBF 0) vRF_6) (q := (RX3, TX3, 5)) rfl rfl rfl (wr := (cF g bF qF0 (bS 0) qF2 (bRF 0) qF4 vF_5 ++ (cS g bS (bC 0) qS1 ++ (cL g bGF vGF_7 ++ (cL g bBF vBF_8))))) (w2 := cF g bF qF0 (bS 0) qF2 (bRF 0) qF4 vF_5 ++ (cS g bS (bC 0) qS1 ++ (cC g bC vC ++ (cR g bRF nRF (bGF 0) (bBF 0) vRF_6 ++ (cL g bGF vGF_7 ++ (cL g bBF vBF_8)))))) [18, 19, 20, 7, 8, 9, 10, 11, 12, 13, 14, 15, 16, 17] [0, 1, 2, 3, 4, 5, 6, 21, 22, 23, 24, 25, 26] [0, 1, 2, 3, 4, 5, 6, 16, 17, 18, 19, 20, 21, 22, 23, 24, 25, 26, 13, 14, 15, 7, 8, 9, 10, 11, 12] rfl rfl (by decide) (by decide) (by decide) rfl rfl (by decide) (As := [.ref (bC 0), .int x1, .int x2]) (rest := []) rfl rfl hl.1 (Nat.le_of_ble_eq_true rfl) dX7_testBetween_27 (k1 := 0) (n1 := 0) rfl rfl ⟨Nat.zero_le _, Nat.zero_le _⟩ (fun H locs hP hD hS => ?_)
    exact absurd (kp_6 hf).1.symm hek
  rw [hH, hlo] at hW
  exact hW
def f_X7_hidden_L19 (vC : Vs) (nRF : Nat) (vF_1 : Vs) (vRF_2 : Vs) (vGF_3 : Vs) (vBF_4 : Vs) (r6 : Int32) (self10 : Int32 → Int32 → Option (Int32 × Vs × Vs × Vs × Vs)) (x2_8 : Int32) (x3_9 : Int32) : Option (Int32 × Vs × Vs × Vs × Vs) :=
  if r6 ≤ x3_9 then some (x2_8, vF_1, vRF_2, vGF_3, vBF_4) else o1 (f_X3_firstApart nRF vRF_2 vC (-1 : Int32) x3_9) (fun (r19 : Int32) => jn (fun (x2_21 : Int32) => self10 x2_21 (x3_9 + (1 : Int32))) (fun k22 => if 0 ≤ r19 then k22 x2_8 else k22 (x2_8 + (1 : Int32))))
def f_X7_hidden (vF : Vs) (vC : Vs) (nRF : Nat) (vRF : Vs) (vGF : Vs) (vBF : Vs) : Option (Int32 × Vs × Vs × Vs × Vs) :=
  o4 (f_X7_refreshFullRows vF vC nRF vRF vGF vBF) (fun (vF_1 : Vs) (vRF_2 : Vs) (vGF_3 : Vs) (vBF_4 : Vs) => o1 (f_X0_faultCount vC) (fun (r6 : Int32) => lp (f_X7_hidden_L19 vC nRF vF_1 vRF_2 vGF_3 vBF_4 r6) (fun _ _ => none) FU (0 : Int32) (0 : Int32)))
abbrev wsX7_hidden : List Cond := .code yX7_hidden cX7_hidden 4 (some .int) :: UW
abbrev rmX7_hidden : Room := { frames := 4, cells := 0, slots := 0, locals := 106 }
set_option maxHeartbeats 4000000 in
set_option maxRecDepth 100000 in
theorem c_X7_hidden (l : Launch) (g : Gx) (bF : Nat → Nat) (qF0 : Nat) (qF2 : Nat) (qF4 : Nat) (vF : Vs) (bS : Nat → Nat) (qS1 : Nat) (bC : Nat → Nat) (vC : Vs) (bRF : Nat → Nat) (nRF : Nat) (vRF : Vs) (bGF : Nat → Nat) (vGF : Vs) (bBF : Nat → Nat) (vBF : Vs) (r : Int32) (vF1 : Vs) (vRF1 : Vs) (vGF1 : Vs) (vBF1 : Vs) (hf : f_X7_hidden vF vC nRF vRF vGF vBF = some (r, vF1, vRF1, vGF1, vBF1)) : CtI l yX7_hidden wsX7_hidden rmX7_hidden g [.ref (bF 0)] (cF g bF qF0 (bS 0) qF2 (bRF 0) qF4 vF ++ (cS g bS (bC 0) qS1 ++ (cC g bC vC ++ (cR g bRF nRF (bGF 0) (bBF 0) vRF ++ (cL g bGF vGF ++ (cL g bBF vBF)))))) (cF g bF qF0 (bS 0) qF2 (bRF 0) qF4 vF1 ++ (cS g bS (bC 0) qS1 ++ (cC g bC vC ++ (cR g bRF nRF (bGF 0) (bBF 0) vRF1 ++ (cL g bGF vGF1 ++ (cL g bBF vBF1)))))) r 0 0 := by
  unfold CtI
  intro sz
  refine Met.ofW (cc := cX7_hidden) (maxL := 4) (ret := (some .int)) (by decide) rfl ?_
  intro p e s m args below meth c s₁ B hml hv
  obtain ⟨rfl, hsz, hP, hK, hD0, hG⟩ := hv
  have hx := B.exec
  have hb := B.bytes
  have hr := B.returns
  have hts := atoms_spec (ws := wsX7_hidden) B.pre
  have hown : s.vm.findClass RX7 = some m.cls := findClass_of_methodNamed B.named
  have hlocks := B.notSynchronized
  subst hsz
  have hD := hD0.self (sz := s.heap.size)
  generalize hAe : va_A (cF g bF qF0 (bS 0) qF2 (bRF 0) qF4 vF ++ (cS g bS (bC 0) qS1 ++ (cC g bC vC ++ (cR g bRF nRF (bGF 0) (bBF 0) vRF ++ (cL g bGF vGF ++ (cL g bBF vBF)))))) s.heap.size = A at hD hG ⊢
  have hA : ∀ q : Nat, s.heap.size ≤ q → A q := fun q h => by rw [← hAe]; exact Or.inr h
  clear hAe hD0
  have hS : va_S A s.heap s.heap [] := va_S.rf
  have hl := lv_entry ([.ref (bF 0)]) (n := 4) (Nat.le_of_ble_eq_true rfl)
  rw [lg_entry_eq]
  generalize (lg_sl ([.ref (bF 0)]) ++ List.replicate (4 - (lg_sl ([.ref (bF 0)])).length) Slot.unset).toArray = ls at hl ⊢
  have hl : lv_has ls 4 [(0, .ref (bF 0))] := hl
  have htu : ∀ w ∈ UW, w.before _ s = true := fun w h => hts w (List.mem_cons_of_mem _ h)
  have k_2_19 := htu _ mw_2_19
  have k_1_150 := htu _ mw_1_150
  have k_2_21 := htu _ mw_2_21
  unfold f_X7_hidden at hf
  obtain ⟨H, hH⟩ : ∃ z, z = s.heap := ⟨_, rfl⟩
  obtain ⟨locs, hlo⟩ : ∃ z : List Loc, z = [] := ⟨_, rfl⟩
  have hS : va_S A s.heap H locs := by rw [hH, hlo]; exact hS
  rw [← hH] at hP
  have hW : W p l e (headSpec wsX7_hidden rmX7_hidden).room s m ([.ref (bF 0)] : List Value).toArray below meth c H locs 0 0 (MQ below (qI g A (cF g bF qF0 (bS 0) qF2 (bRF 0) qF4 vF1 ++ (cS g bS (bC 0) qS1 ++ (cC g bC vC ++ (cR g bRF nRF (bGF 0) (bBF 0) vRF1 ++ (cL g bGF vGF1 ++ (cL g bBF vBF1)))))) r) ([.ref (bF 0)] : List Value).toArray s 0 0 A) (F0 m 0 ls []) := by
    refine lv_aload_n hx hb dX7_hidden_0 rfl (lv_at hl 0 rfl) ?_
    obtain ⟨vF_1, vRF_2, vGF_3, vBF_4, hg5, hf⟩ := o4_at hf
    refine k_vvW ⟨hx, hb, hml, hown, htu⟩ hK hP hD hS hA hG (c_X7_refreshFullRows l g bF qF0 qF2 qF4 vF bS qS1 bC vC bRF nRF vRF bGF vGF bBF vBF vF_1 vRF_2 vGF_3 vBF_4 hg5) (cwV 0 htu (gU_V mw_2_71 hcX7_refreshFullRows) rfl rfl rfl hdX7_refreshFullRows ⟨Nat.le_of_ble_eq_true rfl, Nat.le_of_ble_eq_true rfl⟩) (q0 := 0) (ci := 7) (fs := fcF bF qF0 (bS 0) qF2 (bRF 0) qF4 vF) (q := (RX7, TX7, 12)) rfl rfl rfl (As := []) (rest := []) rfl rfl hl.1 (Nat.le_of_ble_eq_true rfl) dX7_hidden_1 (k1 := 0) (n1 := 0) rfl rfl ⟨Nat.zero_le _, Nat.zero_le _⟩ (fun H locs hP hD hS => ?_)
    refine lv_aload_n hx hb dX7_hidden_4 rfl (lv_at hl 0 rfl) ?_
    refine va_get (D := g.1) (ci := 7) (fs := fcF bF qF0 (bS 0) qF2 (bRF 0) qF4 vF_1) (v := .ref (bS 0)) (C := RX7) (T := TX7) (N := 12) hx hb htu hinX7 hown hK hP 0 rfl rfl 1 (by decide) k_2_19 (fun _ h9 => h9) rfl dX7_hidden_5 ?_
    refine va_get (D := g.1) (ci := 4) (fs := fcS bS (bC 0) qS1) (v := .ref (bC 0)) (C := RX4) (T := TX4) (N := 2) hx hb htu hinX4 hown hK hP 6 rfl rfl 0 (by decide) k_1_150 (fun _ h9 => h9) rfl dX7_hidden_8 ?_
    obtain ⟨r6, hg7, hf⟩ := o1_at hf
    refine k_viP ⟨hx, hb, hml, hown, htu⟩ hK hP hD hS hA hG (c_X0_faultCount l g bC vC r6 hg7) (cwV 0 htu (gU_V mw_2_121 hcX0_faultCount) rfl rfl rfl hdX0_faultCount ⟨Nat.le_of_ble_eq_true rfl, Nat.le_of_ble_eq_true rfl⟩) (q0 := 7) (ci := 0) (fs := fcC bC vC) (q := (RX0, TX0, 14)) rfl rfl rfl (wr := (cF g bF qF0 (bS 0) qF2 (bRF 0) qF4 vF_1 ++ (cS g bS (bC 0) qS1 ++ (cR g bRF nRF (bGF 0) (bBF 0) vRF_2 ++ (cL g bGF vGF_3 ++ (cL g bBF vBF_4)))))) (w2 := cF g bF qF0 (bS 0) qF2 (bRF 0) qF4 vF_1 ++ (cS g bS (bC 0) qS1 ++ (cC g bC vC ++ (cR g bRF nRF (bGF 0) (bBF 0) vRF_2 ++ (cL g bGF vGF_3 ++ (cL g bBF vBF_4)))))) [7, 8, 9, 10, 11, 12, 13, 14, 15, 16, 17] [0, 1, 2, 3, 4, 5, 6, 18, 19, 20, 21, 22, 23, 24, 25, 26] [0, 1, 2, 3, 4, 5, 6, 16, 17, 18, 19, 20, 21, 22, 23, 24, 25, 26, 7, 8, 9, 10, 11, 12, 13, 14, 15] rfl rfl (by decide) (by decide) (by decide) rfl rfl (by decide) (As := []) (rest := []) rfl rfl hl.1 (Nat.le_of_ble_eq_true rfl) dX7_hidden_11 (k1 := 0) (n1 := 0) rfl rfl ⟨Nat.zero_le _, Nat.zero_le _⟩ (fun H locs hP hD hS => ?_)
    refine lv_istore_n (lv' := [(1, .int r6), (0, .ref (bF 0))]) hx hb dX7_hidden_14 rfl hl (by decide) rfl (fun ls hl => ?_)
    refine lv_iconst (v := (0 : Int32)) hx hb dX7_hidden_15 (by decide) ?_
    refine lv_istore_n (lv' := [(2, .int (0 : Int32)), (1, .int r6), (0, .ref (bF 0))]) hx hb dX7_hidden_16 rfl hl (by decide) rfl (fun ls hl => ?_)
    refine lv_iconst (v := (0 : Int32)) hx hb dX7_hidden_17 (by decide) ?_
    refine lv_istore_n (lv' := [(3, .int (0 : Int32)), (2, .int (0 : Int32)), (1, .int r6), (0, .ref (bF 0))]) hx hb dX7_hidden_18 rfl hl (by decide) rfl (fun ls hl => ?_)
    have hL11 : ∀ (x2_8 : Int32) (x3_9 : Int32), lp (f_X7_hidden_L19 vC nRF vF_1 vRF_2 vGF_3 vBF_4 r6) (fun _ _ => none) FU x2_8 x3_9 = some (r, vF1, vRF1, vGF1, vBF1) → ∀ (H : Heap) (locs : List Loc), va_P g.1 vwCl (cF g bF qF0 (bS 0) qF2 (bRF 0) qF4 vF_1 ++ (cS g bS (bC 0) qS1 ++ (cC g bC vC ++ (cR g bRF nRF (bGF 0) (bBF 0) vRF_2 ++ (cL g bGF vGF_3 ++ (cL g bBF vBF_4)))))) H → va_D A (cF g bF qF0 (bS 0) qF2 (bRF 0) qF4 vF_1 ++ (cS g bS (bC 0) qS1 ++ (cC g bC vC ++ (cR g bRF nRF (bGF 0) (bBF 0) vRF_2 ++ (cL g bGF vGF_3 ++ (cL g bBF vBF_4)))))) → va_S A s.heap H locs → ∀ ls : Array Slot, lv_has ls 4 [(0, .ref (bF 0)), (1, .int r6), (2, .int x2_8), (3, .int x3_9)] → W p l e (headSpec wsX7_hidden rmX7_hidden).room s m ([.ref (bF 0)] : List Value).toArray below meth c H locs 0 0 (MQ below (qI g A (cF g bF qF0 (bS 0) qF2 (bRF 0) qF4 vF1 ++ (cS g bS (bC 0) qS1 ++ (cC g bC vC ++ (cR g bRF nRF (bGF 0) (bBF 0) vRF1 ++ (cL g bGF vGF1 ++ (cL g bBF vBF1)))))) r) ([.ref (bF 0)] : List Value).toArray s 0 0 A) (F0 m 19 ls []) := by
      refine lp_ind (T := Int32 → Int32 → Option (Int32 × Vs × Vs × Vs × Vs)) (fun self10 => ∀ (x2_8 : Int32) (x3_9 : Int32), self10 x2_8 x3_9 = some (r, vF1, vRF1, vGF1, vBF1) → ∀ (H : Heap) (locs : List Loc), va_P g.1 vwCl (cF g bF qF0 (bS 0) qF2 (bRF 0) qF4 vF_1 ++ (cS g bS (bC 0) qS1 ++ (cC g bC vC ++ (cR g bRF nRF (bGF 0) (bBF 0) vRF_2 ++ (cL g bGF vGF_3 ++ (cL g bBF vBF_4)))))) H → va_D A (cF g bF qF0 (bS 0) qF2 (bRF 0) qF4 vF_1 ++ (cS g bS (bC 0) qS1 ++ (cC g bC vC ++ (cR g bRF nRF (bGF 0) (bBF 0) vRF_2 ++ (cL g bGF vGF_3 ++ (cL g bBF vBF_4)))))) → va_S A s.heap H locs → ∀ ls : Array Slot, lv_has ls 4 [(0, .ref (bF 0)), (1, .int r6), (2, .int x2_8), (3, .int x3_9)] → W p l e (headSpec wsX7_hidden rmX7_hidden).room s m ([.ref (bF 0)] : List Value).toArray below meth c H locs 0 0 (MQ below (qI g A (cF g bF qF0 (bS 0) qF2 (bRF 0) qF4 vF1 ++ (cS g bS (bC 0) qS1 ++ (cC g bC vC ++ (cR g bRF nRF (bGF 0) (bBF 0) vRF1 ++ (cL g bGF vGF1 ++ (cL g bBF vBF1)))))) r) ([.ref (bF 0)] : List Value).toArray s 0 0 A) (F0 m 19 ls [])) ?_ ?_ FU
      · intro x2_8 x3_9 hf; cases hf
      · intro self10 ih12 x2_8 x3_9 hf H locs hP hD hS ls hl
        unfold f_X7_hidden_L19 at hf
        refine lv_iload_n hx hb dX7_hidden_19 rfl (lv_at hl 3 rfl) ?_
        refine lv_iload_n hx hb dX7_hidden_20 rfl (lv_at hl 1 rfl) ?_
        refine lv_icmp_ge (tgt := 52) hx hb dX7_hidden_21 (by decide) (fun c13 => ?_) (fun c13 => ?_)
        · have hf := it_t hf c13
          refine lv_iload_n hx hb dX7_hidden_52 rfl (lv_at hl 2 rfl) ?_
          obtain ⟨e14, e15, e16, e17, e18⟩ := kp_5 hf
          rw [e15] at hP hD
          rw [e16] at hP hD
          rw [e17] at hP hD
          rw [e18] at hP hD
          exact k_iret hx hb hr hlocks hK hP hD hS e14 dX7_hidden_53
        · have hf := it_f hf c13
          refine lv_aload_n hx hb dX7_hidden_24 rfl (lv_at hl 0 rfl) ?_
          refine va_get (D := g.1) (ci := 7) (fs := fcF bF qF0 (bS 0) qF2 (bRF 0) qF4 vF_1) (v := .ref (bRF 0)) (C := RX7) (T := TX7) (N := 12) hx hb htu hinX7 hown hK hP 0 rfl rfl 3 (by decide) k_2_21 (fun _ h9 => h9) rfl dX7_hidden_25 ?_
          refine lv_aload_n hx hb dX7_hidden_28 rfl (lv_at hl 0 rfl) ?_
          refine va_get (D := g.1) (ci := 7) (fs := fcF bF qF0 (bS 0) qF2 (bRF 0) qF4 vF_1) (v := .ref (bS 0)) (C := RX7) (T := TX7) (N := 12) hx hb htu hinX7 hown hK hP 0 rfl rfl 1 (by decide) k_2_19 (fun _ h9 => h9) rfl dX7_hidden_29 ?_
          refine va_get (D := g.1) (ci := 4) (fs := fcS bS (bC 0) qS1) (v := .ref (bC 0)) (C := RX4) (T := TX4) (N := 2) hx hb htu hinX4 hown hK hP 6 rfl rfl 0 (by decide) k_1_150 (fun _ h9 => h9) rfl dX7_hidden_32 ?_
          refine lv_iconst (v := (-1 : Int32)) hx hb dX7_hidden_35 (by decide) ?_
          refine lv_iload_n hx hb dX7_hidden_36 rfl (lv_at hl 3 rfl) ?_
          obtain ⟨r19, hg20, hf⟩ := o1_at hf
          refine k_viP ⟨hx, hb, hml, hown, htu⟩ hK hP hD hS hA hG (c_X3_firstApart l g bRF nRF (bGF 0) (bBF 0) vRF_2 bC vC (-1 : Int32) x3_9 r19 hg20) (cwV 3 htu (gU_V mw_2_122 hcX3_firstApart) rfl rfl rfl hdX3_firstApart ⟨Nat.le_of_ble_eq_true rfl, Nat.le_of_ble_eq_true rfl⟩) (q0 := 18) (ci := 3) (fs := fcR bRF (bGF 0) (bBF 0) vRF_2) (q := (RX3, TX3, 5)) rfl rfl rfl (wr := (cF g bF qF0 (bS 0) qF2 (bRF 0) qF4 vF_1 ++ (cS g bS (bC 0) qS1 ++ (cL g bGF vGF_3 ++ (cL g bBF vBF_4))))) (w2 := cF g bF qF0 (bS 0) qF2 (bRF 0) qF4 vF_1 ++ (cS g bS (bC 0) qS1 ++ (cC g bC vC ++ (cR g bRF nRF (bGF 0) (bBF 0) vRF_2 ++ (cL g bGF vGF_3 ++ (cL g bBF vBF_4)))))) [18, 19, 20, 7, 8, 9, 10, 11, 12, 13, 14, 15, 16, 17] [0, 1, 2, 3, 4, 5, 6, 21, 22, 23, 24, 25, 26] [0, 1, 2, 3, 4, 5, 6, 16, 17, 18, 19, 20, 21, 22, 23, 24, 25, 26, 13, 14, 15, 7, 8, 9, 10, 11, 12] rfl rfl (by decide) (by decide) (by decide) rfl rfl (by decide) (As := [.ref (bC 0), .int (-1 : Int32), .int x3_9]) (rest := []) rfl rfl hl.1 (Nat.le_of_ble_eq_true rfl) dX7_hidden_37 (k1 := 0) (n1 := 0) rfl rfl ⟨Nat.zero_le _, Nat.zero_le _⟩ (fun H locs hP hD hS => ?_)
          obtain ⟨k22, hk24, hf⟩ := jn_at hf
          have hJ23 : ∀ (x2_21 : Int32), k22 x2_21 = some (r, vF1, vRF1, vGF1, vBF1) → ∀ (H : Heap) (locs : List Loc), va_P g.1 vwCl (cF g bF qF0 (bS 0) qF2 (bRF 0) qF4 vF_1 ++ (cS g bS (bC 0) qS1 ++ (cC g bC vC ++ (cR g bRF nRF (bGF 0) (bBF 0) vRF_2 ++ (cL g bGF vGF_3 ++ (cL g bBF vBF_4)))))) H → va_D A (cF g bF qF0 (bS 0) qF2 (bRF 0) qF4 vF_1 ++ (cS g bS (bC 0) qS1 ++ (cC g bC vC ++ (cR g bRF nRF (bGF 0) (bBF 0) vRF_2 ++ (cL g bGF vGF_3 ++ (cL g bBF vBF_4)))))) → va_S A s.heap H locs → ∀ ls : Array Slot, lv_has ls 4 [(0, .ref (bF 0)), (1, .int r6), (2, .int x2_21), (3, .int x3_9)] → W p l e (headSpec wsX7_hidden rmX7_hidden).room s m ([.ref (bF 0)] : List Value).toArray below meth c H locs 0 0 (MQ below (qI g A (cF g bF qF0 (bS 0) qF2 (bRF 0) qF4 vF1 ++ (cS g bS (bC 0) qS1 ++ (cC g bC vC ++ (cR g bRF nRF (bGF 0) (bBF 0) vRF1 ++ (cL g bGF vGF1 ++ (cL g bBF vBF1)))))) r) ([.ref (bF 0)] : List Value).toArray s 0 0 A) (F0 m 46 ls []) := by
            intro x2_21 hf H locs hP hD hS ls hl
            rw [hk24] at hf
            dsimp only at hf
            clear hk24
            refine lv_iinc (v := (x3_9 + (1 : Int32))) (lv' := [(3, .int (x3_9 + (1 : Int32))), (0, .ref (bF 0)), (1, .int r6), (2, .int x2_21)]) hx hb dX7_hidden_46 hl (k := 3) rfl rfl (by decide) rfl (fun ls hl => ?_)
            refine lv_goto (tgt := 19) hx hb dX7_hidden_49 (by decide) ?_
            exact ih12 x2_21 (x3_9 + (1 : Int32)) hf H locs hP hD hS _ (lv_sub hl [1, 2, 3, 0] rfl)
          refine lv_if_ge (tgt := 46) hx hb dX7_hidden_40 (by decide) (fun c25 => ?_) (fun c25 => ?_)
          · have hf := it_t hf c25
            exact hJ23 x2_8 hf H locs hP hD hS _ (lv_sub hl [0, 1, 2, 3] rfl)
          · have hf := it_f hf c25
            refine lv_iinc (v := (x2_8 + (1 : Int32))) (lv' := [(2, .int (x2_8 + (1 : Int32))), (0, .ref (bF 0)), (1, .int r6), (3, .int x3_9)]) hx hb dX7_hidden_43 hl (k := 2) rfl rfl (by decide) rfl (fun ls hl => ?_)
            exact hJ23 (x2_8 + (1 : Int32)) hf H locs hP hD hS _ (lv_sub hl [1, 2, 0, 3] rfl)
    exact hL11 (0 : Int32) (0 : Int32) hf H locs hP hD hS _ (lv_sub hl [3, 2, 1, 0] rfl)
  rw [hH, hlo] at hW
  exact hW
def f_X7_alike (vF : Vs) (vC : Vs) (nRF : Nat) (vRF : Vs) (vGF : Vs) (vBF : Vs) (x1 : Int32) : Option (Nat × Int32 × Vs × Vs × Vs × Vs) :=
  o1 (f_X7_checkFault vF vC x1) (fun (c1 : Nat) => if c1 = 0 then (o4 (f_X7_refreshFullRows vF vC nRF vRF vGF vBF) (fun (vF_3 : Vs) (vRF_4 : Vs) (vGF_5 : Vs) (vBF_6 : Vs) => o1 (f_X7_firstAlike vF_3 vC nRF vRF_4 x1) (fun (r8 : Int32) => some (0, r8, vF_3, vRF_4, vGF_5, vBF_6)))) else some (c1, (0 : Int32), vF, vRF, vGF, vBF))
abbrev wsX7_alike : List Cond := .code yX7_alike cX7_alike 2 (some .int) :: UW
abbrev rmX7_alike : Room := { frames := 4, cells := 0, slots := 0, locals := 106 }
set_option maxHeartbeats 4000000 in
set_option maxRecDepth 100000 in
theorem c_X7_alike (l : Launch) (g : Gx) (bF : Nat → Nat) (qF0 : Nat) (qF2 : Nat) (qF4 : Nat) (vF : Vs) (bS : Nat → Nat) (qS1 : Nat) (bC : Nat → Nat) (vC : Vs) (bRF : Nat → Nat) (nRF : Nat) (vRF : Vs) (bGF : Nat → Nat) (vGF : Vs) (bBF : Nat → Nat) (vBF : Vs) (x1 : Int32) (r : Int32) (vF1 : Vs) (vRF1 : Vs) (vGF1 : Vs) (vBF1 : Vs) (hf : f_X7_alike vF vC nRF vRF vGF vBF x1 = some (0, r, vF1, vRF1, vGF1, vBF1)) : CtI l yX7_alike wsX7_alike rmX7_alike g [.ref (bF 0), .int x1] (cF g bF qF0 (bS 0) qF2 (bRF 0) qF4 vF ++ (cS g bS (bC 0) qS1 ++ (cC g bC vC ++ (cR g bRF nRF (bGF 0) (bBF 0) vRF ++ (cL g bGF vGF ++ (cL g bBF vBF)))))) (cF g bF qF0 (bS 0) qF2 (bRF 0) qF4 vF1 ++ (cS g bS (bC 0) qS1 ++ (cC g bC vC ++ (cR g bRF nRF (bGF 0) (bBF 0) vRF1 ++ (cL g bGF vGF1 ++ (cL g bBF vBF1)))))) r 0 0 := by
  unfold CtI
  intro sz
  refine Met.ofW (cc := cX7_alike) (maxL := 2) (ret := (some .int)) (by decide) rfl ?_
  intro p e s m args below meth c s₁ B hml hv
  obtain ⟨rfl, hsz, hP, hK, hD0, hG⟩ := hv
  have hx := B.exec
  have hb := B.bytes
  have hr := B.returns
  have hts := atoms_spec (ws := wsX7_alike) B.pre
  have hown : s.vm.findClass RX7 = some m.cls := findClass_of_methodNamed B.named
  have hlocks := B.notSynchronized
  subst hsz
  have hD := hD0.self (sz := s.heap.size)
  generalize hAe : va_A (cF g bF qF0 (bS 0) qF2 (bRF 0) qF4 vF ++ (cS g bS (bC 0) qS1 ++ (cC g bC vC ++ (cR g bRF nRF (bGF 0) (bBF 0) vRF ++ (cL g bGF vGF ++ (cL g bBF vBF)))))) s.heap.size = A at hD hG ⊢
  have hA : ∀ q : Nat, s.heap.size ≤ q → A q := fun q h => by rw [← hAe]; exact Or.inr h
  clear hAe hD0
  have hS : va_S A s.heap s.heap [] := va_S.rf
  have hl := lv_entry ([.ref (bF 0), .int x1]) (n := 2) (Nat.le_of_ble_eq_true rfl)
  rw [lg_entry_eq]
  generalize (lg_sl ([.ref (bF 0), .int x1]) ++ List.replicate (2 - (lg_sl ([.ref (bF 0), .int x1])).length) Slot.unset).toArray = ls at hl ⊢
  have hl : lv_has ls 2 [(0, .ref (bF 0)), (1, .int x1)] := hl
  have htu : ∀ w ∈ UW, w.before _ s = true := fun w h => hts w (List.mem_cons_of_mem _ h)
  unfold f_X7_alike at hf
  obtain ⟨H, hH⟩ : ∃ z, z = s.heap := ⟨_, rfl⟩
  obtain ⟨locs, hlo⟩ : ∃ z : List Loc, z = [] := ⟨_, rfl⟩
  have hS : va_S A s.heap H locs := by rw [hH, hlo]; exact hS
  rw [← hH] at hP
  have hW : W p l e (headSpec wsX7_alike rmX7_alike).room s m ([.ref (bF 0), .int x1] : List Value).toArray below meth c H locs 0 0 (MQ below (qI g A (cF g bF qF0 (bS 0) qF2 (bRF 0) qF4 vF1 ++ (cS g bS (bC 0) qS1 ++ (cC g bC vC ++ (cR g bRF nRF (bGF 0) (bBF 0) vRF1 ++ (cL g bGF vGF1 ++ (cL g bBF vBF1)))))) r) ([.ref (bF 0), .int x1] : List Value).toArray s 0 0 A) (F0 m 0 ls []) := by
    refine lv_aload_n hx hb dX7_alike_0 rfl (lv_at hl 0 rfl) ?_
    refine lv_iload_n hx hb dX7_alike_1 rfl (lv_at hl 1 rfl) ?_
    obtain ⟨c1, hg2, hf⟩ := o1_at hf
    have hc1 : c1 = 0 := Classical.byContradiction (fun h9 => h9 (kp_6 (it_f hf h9)).1)
    have hf := it_t hf hc1
    rw [hc1] at hg2
    refine k_vvP ⟨hx, hb, hml, hown, htu⟩ hK hP hD hS hA hG (c_X7_checkFault l g bF qF0 qF2 (bRF 0) qF4 vF bS qS1 bC vC x1 hg2) (cwV 1 htu (gU_V mw_4_169 hcX7_checkFault) rfl rfl rfl hdX7_checkFault ⟨Nat.le_of_ble_eq_true rfl, Nat.le_of_ble_eq_true rfl⟩) (q0 := 0) (ci := 7) (fs := fcF bF qF0 (bS 0) qF2 (bRF 0) qF4 vF) (q := (RX7, TX7, 12)) rfl rfl rfl (wr := (cR g bRF nRF (bGF 0) (bBF 0) vRF ++ (cL g bGF vGF ++ (cL g bBF vBF)))) (w2 := cF g bF qF0 (bS 0) qF2 (bRF 0) qF4 vF ++ (cS g bS (bC 0) qS1 ++ (cC g bC vC ++ (cR g bRF nRF (bGF 0) (bBF 0) vRF ++ (cL g bGF vGF ++ (cL g bBF vBF)))))) [0, 1, 2, 3, 4, 5, 6, 7, 8, 9, 10, 11, 12, 13, 14, 15, 16, 17] [18, 19, 20, 21, 22, 23, 24, 25, 26] [9, 10, 11, 12, 13, 14, 15, 16, 17, 18, 19, 20, 21, 22, 23, 24, 25, 26, 0, 1, 2, 3, 4, 5, 6, 7, 8] rfl rfl (by decide) (by decide) (by decide) rfl rfl (by decide) (As := [.int x1]) (rest := []) rfl rfl hl.1 (Nat.le_of_ble_eq_true rfl) dX7_alike_2 (k1 := 0) (n1 := 0) rfl rfl ⟨Nat.zero_le _, Nat.zero_le _⟩ (fun H locs hP hD hS => ?_)
    refine lv_aload_n hx hb dX7_alike_5 rfl (lv_at hl 0 rfl) ?_
    obtain ⟨vF_3, vRF_4, vGF_5, vBF_6, hg7, hf⟩ := o4_at hf
    refine k_vvW ⟨hx, hb, hml, hown, htu⟩ hK hP hD hS hA hG (c_X7_refreshFullRows l g bF qF0 qF2 qF4 vF bS qS1 bC vC bRF nRF vRF bGF vGF bBF vBF vF_3 vRF_4 vGF_5 vBF_6 hg7) (cwV 0 htu (gU_V mw_2_71 hcX7_refreshFullRows) rfl rfl rfl hdX7_refreshFullRows ⟨Nat.le_of_ble_eq_true rfl, Nat.le_of_ble_eq_true rfl⟩) (q0 := 0) (ci := 7) (fs := fcF bF qF0 (bS 0) qF2 (bRF 0) qF4 vF) (q := (RX7, TX7, 12)) rfl rfl rfl (As := []) (rest := []) rfl rfl hl.1 (Nat.le_of_ble_eq_true rfl) dX7_alike_6 (k1 := 0) (n1 := 0) rfl rfl ⟨Nat.zero_le _, Nat.zero_le _⟩ (fun H locs hP hD hS => ?_)
    refine lv_aload_n hx hb dX7_alike_9 rfl (lv_at hl 0 rfl) ?_
    refine lv_iload_n hx hb dX7_alike_10 rfl (lv_at hl 1 rfl) ?_
    obtain ⟨r8, hg9, hf⟩ := o1_at hf
    refine k_viP ⟨hx, hb, hml, hown, htu⟩ hK hP hD hS hA hG (c_X7_firstAlike l g bF qF0 qF2 qF4 vF_3 bS qS1 bC vC bRF nRF (bGF 0) (bBF 0) vRF_4 x1 r8 hg9) (cwV 1 htu (gU_V mw_2_144 hcX7_firstAlike) rfl rfl rfl hdX7_firstAlike ⟨Nat.le_of_ble_eq_true rfl, Nat.le_of_ble_eq_true rfl⟩) (q0 := 0) (ci := 7) (fs := fcF bF qF0 (bS 0) qF2 (bRF 0) qF4 vF_3) (q := (RX7, TX7, 12)) rfl rfl rfl (wr := (cL g bGF vGF_5 ++ (cL g bBF vBF_6))) (w2 := cF g bF qF0 (bS 0) qF2 (bRF 0) qF4 vF_3 ++ (cS g bS (bC 0) qS1 ++ (cC g bC vC ++ (cR g bRF nRF (bGF 0) (bBF 0) vRF_4 ++ (cL g bGF vGF_5 ++ (cL g bBF vBF_6)))))) [0, 1, 2, 3, 4, 5, 6, 7, 8, 9, 10, 11, 12, 13, 14, 15, 16, 17, 18, 19, 20] [21, 22, 23, 24, 25, 26] [6, 7, 8, 9, 10, 11, 12, 13, 14, 15, 16, 17, 18, 19, 20, 21, 22, 23, 24, 25, 26, 0, 1, 2, 3, 4, 5] rfl rfl (by decide) (by decide) (by decide) rfl rfl (by decide) (As := [.int x1]) (rest := []) rfl rfl hl.1 (Nat.le_of_ble_eq_true rfl) dX7_alike_11 (k1 := 0) (n1 := 0) rfl rfl ⟨Nat.zero_le _, Nat.zero_le _⟩ (fun H locs hP hD hS => ?_)
    obtain ⟨e10, e11, e12, e13, e14, e15⟩ := kp_6 hf
    rw [e12] at hP hD
    rw [e13] at hP hD
    rw [e14] at hP hD
    rw [e15] at hP hD
    exact k_iret hx hb hr hlocks hK hP hD hS e11 dX7_alike_14
  rw [hH, hlo] at hW
  exact hW
abbrev rtX7_alike : Room := { frames := 9, cells := 1, slots := 6, locals := 141 }
set_option maxHeartbeats 4000000 in
set_option maxRecDepth 100000 in
theorem t_X7_alike (l : Launch) (hst : l.stackTraces = false) (g : Gx) (bF : Nat → Nat) (qF0 : Nat) (qF2 : Nat) (qF4 : Nat) (vF : Vs) (bS : Nat → Nat) (qS1 : Nat) (bC : Nat → Nat) (vC : Vs) (bRF : Nat → Nat) (nRF : Nat) (vRF : Vs) (bGF : Nat → Nat) (vGF : Vs) (bBF : Nat → Nat) (vBF : Vs) (x1 : Int32) (r : Int32) (vF1 : Vs) (vRF1 : Vs) (vGF1 : Vs) (vBF1 : Vs) (ek : Nat) (hf : f_X7_alike vF vC nRF vRF vGF vBF x1 = some (ek, r, vF1, vRF1, vGF1, vBF1)) (hek : ¬ ek = 0) : CtXI l yX7_alike wsX7_alike rtX7_alike g [.ref (bF 0), .int x1] (cF g bF qF0 (bS 0) qF2 (bRF 0) qF4 vF ++ (cS g bS (bC 0) qS1 ++ (cC g bC vC ++ (cR g bRF nRF (bGF 0) (bBF 0) vRF ++ (cL g bGF vGF ++ (cL g bBF vBF)))))) (cF g bF qF0 (bS 0) qF2 (bRF 0) qF4 vF1 ++ (cS g bS (bC 0) qS1 ++ (cC g bC vC ++ (cR g bRF nRF (bGF 0) (bBF 0) vRF1 ++ (cL g bGF vGF1 ++ (cL g bBF vBF1)))))) (exN ek) 1 6 := by
  unfold CtXI
  intro sz
  refine vx_ofW (cc := cX7_alike) (maxL := 2) (ret := (some .int)) (by decide) rfl ?_
  intro p e s m args below meth c s₁ B hml hT hv
  obtain ⟨rfl, hsz, hP, hK, hD0, hG⟩ := hv
  have hx := B.exec
  have hb := B.bytes
  have hr := B.returns
  have hts := atoms_spec (ws := wsX7_alike) B.pre
  have hown : s.vm.findClass RX7 = some m.cls := findClass_of_methodNamed B.named
  have hlocks := B.notSynchronized
  subst hsz
  have hD := hD0.self (sz := s.heap.size)
  generalize hAe : va_A (cF g bF qF0 (bS 0) qF2 (bRF 0) qF4 vF ++ (cS g bS (bC 0) qS1 ++ (cC g bC vC ++ (cR g bRF nRF (bGF 0) (bBF 0) vRF ++ (cL g bGF vGF ++ (cL g bBF vBF)))))) s.heap.size = A at hD hG ⊢
  have hA : ∀ q : Nat, s.heap.size ≤ q → A q := fun q h => by rw [← hAe]; exact Or.inr h
  clear hAe hD0
  have hS : va_S A s.heap s.heap [] := va_S.rf
  have hl := lv_entry ([.ref (bF 0), .int x1]) (n := 2) (Nat.le_of_ble_eq_true rfl)
  rw [lg_entry_eq]
  generalize (lg_sl ([.ref (bF 0), .int x1]) ++ List.replicate (2 - (lg_sl ([.ref (bF 0), .int x1])).length) Slot.unset).toArray = ls at hl ⊢
  have hl : lv_has ls 2 [(0, .ref (bF 0)), (1, .int x1)] := hl
  have htu : ∀ w ∈ UW, w.before _ s = true := fun w h => hts w (List.mem_cons_of_mem _ h)
  unfold f_X7_alike at hf
  obtain ⟨H, hH⟩ : ∃ z, z = s.heap := ⟨_, rfl⟩
  obtain ⟨locs, hlo⟩ : ∃ z : List Loc, z = [] := ⟨_, rfl⟩
  have hS : va_S A s.heap H locs := by rw [hH, hlo]; exact hS
  rw [← hH] at hP
  have hW : W p l e (headSpec wsX7_alike rtX7_alike).room s m ([.ref (bF 0), .int x1] : List Value).toArray below meth c H locs 0 0 (vx_MQ below (nI0 A) (xE g A (cF g bF qF0 (bS 0) qF2 (bRF 0) qF4 vF1 ++ (cS g bS (bC 0) qS1 ++ (cC g bC vC ++ (cR g bRF nRF (bGF 0) (bBF 0) vRF1 ++ (cL g bGF vGF1 ++ (cL g bBF vBF1)))))) (exN ek)) ([.ref (bF 0), .int x1] : List Value).toArray s 1 6 A) (F0 m 0 ls []) := by
    refine lv_aload_n hx hb dX7_alike_0 rfl (lv_at hl 0 rfl) ?_
    refine lv_iload_n hx hb dX7_alike_1 rfl (lv_at hl 1 rfl) ?_
    obtain ⟨c1, hg2, hf⟩ := o1_at hf
    rcases Classical.em (¬ c1 = 0) with hc1 | hc1
    · have hf := it_f hf hc1
      obtain ⟨rfl, rfl, rfl, rfl, rfl, rfl⟩ := kp_6 hf
      exact kx_vvP ⟨hx, hb, hml, hown, htu⟩ hK hP hD hS hA hG (t_X7_checkFault l hst g bF qF0 qF2 (bRF 0) qF4 vF bS qS1 bC vC x1 c1 hg2 hc1) (cwV 1 htu (gU_V mw_4_169 hcX7_checkFault) rfl rfl rfl hdX7_checkFault ⟨Nat.le_of_ble_eq_true rfl, Nat.le_of_ble_eq_true rfl⟩) (q0 := 0) (ci := 7) (fs := fcF bF qF0 (bS 0) qF2 (bRF 0) qF4 vF) (q := (RX7, TX7, 12)) rfl rfl rfl (wr := (cR g bRF nRF (bGF 0) (bBF 0) vRF ++ (cL g bGF vGF ++ (cL g bBF vBF)))) (w2 := cF g bF qF0 (bS 0) qF2 (bRF 0) qF4 vF ++ (cS g bS (bC 0) qS1 ++ (cC g bC vC ++ (cR g bRF nRF (bGF 0) (bBF 0) vRF ++ (cL g bGF vGF ++ (cL g bBF vBF)))))) [0, 1, 2, 3, 4, 5, 6, 7, 8, 9, 10, 11, 12, 13, 14, 15, 16, 17] [18, 19, 20, 21, 22, 23, 24, 25, 26] [9, 10, 11, 12, 13, 14, 15, 16, 17, 18, 19, 20, 21, 22, 23, 24, 25, 26, 0, 1, 2, 3, 4, 5, 6, 7, 8] rfl rfl (by decide) (by decide) (by decide) rfl rfl (by decide) (As := [.int x1]) (rest := []) rfl rfl hl.1 (Nat.le_of_ble_eq_true rfl) dX7_alike_2 ⟨Nat.le_refl _, Nat.le_refl _⟩ ⟨Nat.le_refl _, Nat.le_refl _⟩ hT hlocks
    have hc1 := Classical.not_not.mp hc1
    have hf := it_t hf hc1
    rw [hc1] at hg2
    refine k_vvP ⟨hx, hb, hml, hown, htu⟩ hK hP hD hS hA hG (c_X7_checkFault l g bF qF0 qF2 (bRF 0) qF4 vF bS qS1 bC vC x1 hg2) (cwV 1 htu (gU_V mw_4_169 hcX7_checkFault) rfl rfl rfl hdX7_checkFault ⟨Nat.le_of_ble_eq_true rfl, Nat.le_of_ble_eq_true rfl⟩) (q0 := 0) (ci := 7) (fs := fcF bF qF0 (bS 0) qF2 (bRF 0) qF4 vF) (q := (RX7, TX7, 12)) rfl rfl rfl (wr := (cR g bRF nRF (bGF 0) (bBF 0) vRF ++ (cL g bGF vGF ++ (cL g bBF vBF)))) (w2 := cF g bF qF0 (bS 0) qF2 (bRF 0) qF4 vF ++ (cS g bS (bC 0) qS1 ++ (cC g bC vC ++ (cR g bRF nRF (bGF 0) (bBF 0) vRF ++ (cL g bGF vGF ++ (cL g bBF vBF)))))) [0, 1, 2, 3, 4, 5, 6, 7, 8, 9, 10, 11, 12, 13, 14, 15, 16, 17] [18, 19, 20, 21, 22, 23, 24, 25, 26] [9, 10, 11, 12, 13, 14, 15, 16, 17, 18, 19, 20, 21, 22, 23, 24, 25, 26, 0, 1, 2, 3, 4, 5, 6, 7, 8] rfl rfl (by decide) (by decide) (by decide) rfl rfl (by decide) (As := [.int x1]) (rest := []) rfl rfl hl.1 (Nat.le_of_ble_eq_true rfl) dX7_alike_2 (k1 := 0) (n1 := 0) rfl rfl ⟨Nat.zero_le _, Nat.zero_le _⟩ (fun H locs hP hD hS => ?_)
    refine lv_aload_n hx hb dX7_alike_5 rfl (lv_at hl 0 rfl) ?_
    obtain ⟨vF_3, vRF_4, vGF_5, vBF_6, hg7, hf⟩ := o4_at hf
    refine k_vvW ⟨hx, hb, hml, hown, htu⟩ hK hP hD hS hA hG (c_X7_refreshFullRows l g bF qF0 qF2 qF4 vF bS qS1 bC vC bRF nRF vRF bGF vGF bBF vBF vF_3 vRF_4 vGF_5 vBF_6 hg7) (cwV 0 htu (gU_V mw_2_71 hcX7_refreshFullRows) rfl rfl rfl hdX7_refreshFullRows ⟨Nat.le_of_ble_eq_true rfl, Nat.le_of_ble_eq_true rfl⟩) (q0 := 0) (ci := 7) (fs := fcF bF qF0 (bS 0) qF2 (bRF 0) qF4 vF) (q := (RX7, TX7, 12)) rfl rfl rfl (As := []) (rest := []) rfl rfl hl.1 (Nat.le_of_ble_eq_true rfl) dX7_alike_6 (k1 := 0) (n1 := 0) rfl rfl ⟨Nat.zero_le _, Nat.zero_le _⟩ (fun H locs hP hD hS => ?_)
    refine lv_aload_n hx hb dX7_alike_9 rfl (lv_at hl 0 rfl) ?_
    refine lv_iload_n hx hb dX7_alike_10 rfl (lv_at hl 1 rfl) ?_
    obtain ⟨r8, hg9, hf⟩ := o1_at hf
    refine k_viP ⟨hx, hb, hml, hown, htu⟩ hK hP hD hS hA hG (c_X7_firstAlike l g bF qF0 qF2 qF4 vF_3 bS qS1 bC vC bRF nRF (bGF 0) (bBF 0) vRF_4 x1 r8 hg9) (cwV 1 htu (gU_V mw_2_144 hcX7_firstAlike) rfl rfl rfl hdX7_firstAlike ⟨Nat.le_of_ble_eq_true rfl, Nat.le_of_ble_eq_true rfl⟩) (q0 := 0) (ci := 7) (fs := fcF bF qF0 (bS 0) qF2 (bRF 0) qF4 vF_3) (q := (RX7, TX7, 12)) rfl rfl rfl (wr := (cL g bGF vGF_5 ++ (cL g bBF vBF_6))) (w2 := cF g bF qF0 (bS 0) qF2 (bRF 0) qF4 vF_3 ++ (cS g bS (bC 0) qS1 ++ (cC g bC vC ++ (cR g bRF nRF (bGF 0) (bBF 0) vRF_4 ++ (cL g bGF vGF_5 ++ (cL g bBF vBF_6)))))) [0, 1, 2, 3, 4, 5, 6, 7, 8, 9, 10, 11, 12, 13, 14, 15, 16, 17, 18, 19, 20] [21, 22, 23, 24, 25, 26] [6, 7, 8, 9, 10, 11, 12, 13, 14, 15, 16, 17, 18, 19, 20, 21, 22, 23, 24, 25, 26, 0, 1, 2, 3, 4, 5] rfl rfl (by decide) (by decide) (by decide) rfl rfl (by decide) (As := [.int x1]) (rest := []) rfl rfl hl.1 (Nat.le_of_ble_eq_true rfl) dX7_alike_11 (k1 := 0) (n1 := 0) rfl rfl ⟨Nat.zero_le _, Nat.zero_le _⟩ (fun H locs hP hD hS => ?_)
    exact absurd (kp_6 hf).1.symm hek
  rw [hH, hlo] at hW
  exact hW
def f_X7_classes_L19 (vC : Vs) (nRF : Nat) (vF_1 : Vs) (vRF_2 : Vs) (vGF_3 : Vs) (vBF_4 : Vs) (r6 : Int32) (self10 : Int32 → Int32 → Option (Int32 × Vs × Vs × Vs × Vs)) (x2_8 : Int32) (x3_9 : Int32) : Option (Int32 × Vs × Vs × Vs × Vs) :=
  if r6 ≤ x3_9 then some (x2_8, vF_1, vRF_2, vGF_3, vBF_4) else o1 (f_X7_firstAlike vF_1 vC nRF vRF_2 x3_9) (fun (r19 : Int32) => jn (fun (x2_21 : Int32) => self10 x2_21 (x3_9 + (1 : Int32))) (fun k22 => if r19 = x3_9 then k22 (x2_8 + (1 : Int32)) else k22 x2_8))
def f_X7_classes (vF : Vs) (vC : Vs) (nRF : Nat) (vRF : Vs) (vGF : Vs) (vBF : Vs) : Option (Int32 × Vs × Vs × Vs × Vs) :=
  o4 (f_X7_refreshFullRows vF vC nRF vRF vGF vBF) (fun (vF_1 : Vs) (vRF_2 : Vs) (vGF_3 : Vs) (vBF_4 : Vs) => o1 (f_X0_faultCount vC) (fun (r6 : Int32) => lp (f_X7_classes_L19 vC nRF vF_1 vRF_2 vGF_3 vBF_4 r6) (fun _ _ => none) FU (0 : Int32) (0 : Int32)))
abbrev wsX7_classes : List Cond := .code yX7_classes cX7_classes 4 (some .int) :: UW
abbrev rmX7_classes : Room := { frames := 4, cells := 0, slots := 0, locals := 106 }
set_option maxHeartbeats 4000000 in
set_option maxRecDepth 100000 in
theorem c_X7_classes (l : Launch) (g : Gx) (bF : Nat → Nat) (qF0 : Nat) (qF2 : Nat) (qF4 : Nat) (vF : Vs) (bS : Nat → Nat) (qS1 : Nat) (bC : Nat → Nat) (vC : Vs) (bRF : Nat → Nat) (nRF : Nat) (vRF : Vs) (bGF : Nat → Nat) (vGF : Vs) (bBF : Nat → Nat) (vBF : Vs) (r : Int32) (vF1 : Vs) (vRF1 : Vs) (vGF1 : Vs) (vBF1 : Vs) (hf : f_X7_classes vF vC nRF vRF vGF vBF = some (r, vF1, vRF1, vGF1, vBF1)) : CtI l yX7_classes wsX7_classes rmX7_classes g [.ref (bF 0)] (cF g bF qF0 (bS 0) qF2 (bRF 0) qF4 vF ++ (cS g bS (bC 0) qS1 ++ (cC g bC vC ++ (cR g bRF nRF (bGF 0) (bBF 0) vRF ++ (cL g bGF vGF ++ (cL g bBF vBF)))))) (cF g bF qF0 (bS 0) qF2 (bRF 0) qF4 vF1 ++ (cS g bS (bC 0) qS1 ++ (cC g bC vC ++ (cR g bRF nRF (bGF 0) (bBF 0) vRF1 ++ (cL g bGF vGF1 ++ (cL g bBF vBF1)))))) r 0 0 := by
  unfold CtI
  intro sz
  refine Met.ofW (cc := cX7_classes) (maxL := 4) (ret := (some .int)) (by decide) rfl ?_
  intro p e s m args below meth c s₁ B hml hv
  obtain ⟨rfl, hsz, hP, hK, hD0, hG⟩ := hv
  have hx := B.exec
  have hb := B.bytes
  have hr := B.returns
  have hts := atoms_spec (ws := wsX7_classes) B.pre
  have hown : s.vm.findClass RX7 = some m.cls := findClass_of_methodNamed B.named
  have hlocks := B.notSynchronized
  subst hsz
  have hD := hD0.self (sz := s.heap.size)
  generalize hAe : va_A (cF g bF qF0 (bS 0) qF2 (bRF 0) qF4 vF ++ (cS g bS (bC 0) qS1 ++ (cC g bC vC ++ (cR g bRF nRF (bGF 0) (bBF 0) vRF ++ (cL g bGF vGF ++ (cL g bBF vBF)))))) s.heap.size = A at hD hG ⊢
  have hA : ∀ q : Nat, s.heap.size ≤ q → A q := fun q h => by rw [← hAe]; exact Or.inr h
  clear hAe hD0
  have hS : va_S A s.heap s.heap [] := va_S.rf
  have hl := lv_entry ([.ref (bF 0)]) (n := 4) (Nat.le_of_ble_eq_true rfl)
  rw [lg_entry_eq]
  generalize (lg_sl ([.ref (bF 0)]) ++ List.replicate (4 - (lg_sl ([.ref (bF 0)])).length) Slot.unset).toArray = ls at hl ⊢
  have hl : lv_has ls 4 [(0, .ref (bF 0))] := hl
  have htu : ∀ w ∈ UW, w.before _ s = true := fun w h => hts w (List.mem_cons_of_mem _ h)
  have k_2_19 := htu _ mw_2_19
  have k_1_150 := htu _ mw_1_150
  unfold f_X7_classes at hf
  obtain ⟨H, hH⟩ : ∃ z, z = s.heap := ⟨_, rfl⟩
  obtain ⟨locs, hlo⟩ : ∃ z : List Loc, z = [] := ⟨_, rfl⟩
  have hS : va_S A s.heap H locs := by rw [hH, hlo]; exact hS
  rw [← hH] at hP
  have hW : W p l e (headSpec wsX7_classes rmX7_classes).room s m ([.ref (bF 0)] : List Value).toArray below meth c H locs 0 0 (MQ below (qI g A (cF g bF qF0 (bS 0) qF2 (bRF 0) qF4 vF1 ++ (cS g bS (bC 0) qS1 ++ (cC g bC vC ++ (cR g bRF nRF (bGF 0) (bBF 0) vRF1 ++ (cL g bGF vGF1 ++ (cL g bBF vBF1)))))) r) ([.ref (bF 0)] : List Value).toArray s 0 0 A) (F0 m 0 ls []) := by
    refine lv_aload_n hx hb dX7_classes_0 rfl (lv_at hl 0 rfl) ?_
    obtain ⟨vF_1, vRF_2, vGF_3, vBF_4, hg5, hf⟩ := o4_at hf
    refine k_vvW ⟨hx, hb, hml, hown, htu⟩ hK hP hD hS hA hG (c_X7_refreshFullRows l g bF qF0 qF2 qF4 vF bS qS1 bC vC bRF nRF vRF bGF vGF bBF vBF vF_1 vRF_2 vGF_3 vBF_4 hg5) (cwV 0 htu (gU_V mw_2_71 hcX7_refreshFullRows) rfl rfl rfl hdX7_refreshFullRows ⟨Nat.le_of_ble_eq_true rfl, Nat.le_of_ble_eq_true rfl⟩) (q0 := 0) (ci := 7) (fs := fcF bF qF0 (bS 0) qF2 (bRF 0) qF4 vF) (q := (RX7, TX7, 12)) rfl rfl rfl (As := []) (rest := []) rfl rfl hl.1 (Nat.le_of_ble_eq_true rfl) dX7_classes_1 (k1 := 0) (n1 := 0) rfl rfl ⟨Nat.zero_le _, Nat.zero_le _⟩ (fun H locs hP hD hS => ?_)
    refine lv_aload_n hx hb dX7_classes_4 rfl (lv_at hl 0 rfl) ?_
    refine va_get (D := g.1) (ci := 7) (fs := fcF bF qF0 (bS 0) qF2 (bRF 0) qF4 vF_1) (v := .ref (bS 0)) (C := RX7) (T := TX7) (N := 12) hx hb htu hinX7 hown hK hP 0 rfl rfl 1 (by decide) k_2_19 (fun _ h9 => h9) rfl dX7_classes_5 ?_
    refine va_get (D := g.1) (ci := 4) (fs := fcS bS (bC 0) qS1) (v := .ref (bC 0)) (C := RX4) (T := TX4) (N := 2) hx hb htu hinX4 hown hK hP 6 rfl rfl 0 (by decide) k_1_150 (fun _ h9 => h9) rfl dX7_classes_8 ?_
    obtain ⟨r6, hg7, hf⟩ := o1_at hf
    refine k_viP ⟨hx, hb, hml, hown, htu⟩ hK hP hD hS hA hG (c_X0_faultCount l g bC vC r6 hg7) (cwV 0 htu (gU_V mw_2_121 hcX0_faultCount) rfl rfl rfl hdX0_faultCount ⟨Nat.le_of_ble_eq_true rfl, Nat.le_of_ble_eq_true rfl⟩) (q0 := 7) (ci := 0) (fs := fcC bC vC) (q := (RX0, TX0, 14)) rfl rfl rfl (wr := (cF g bF qF0 (bS 0) qF2 (bRF 0) qF4 vF_1 ++ (cS g bS (bC 0) qS1 ++ (cR g bRF nRF (bGF 0) (bBF 0) vRF_2 ++ (cL g bGF vGF_3 ++ (cL g bBF vBF_4)))))) (w2 := cF g bF qF0 (bS 0) qF2 (bRF 0) qF4 vF_1 ++ (cS g bS (bC 0) qS1 ++ (cC g bC vC ++ (cR g bRF nRF (bGF 0) (bBF 0) vRF_2 ++ (cL g bGF vGF_3 ++ (cL g bBF vBF_4)))))) [7, 8, 9, 10, 11, 12, 13, 14, 15, 16, 17] [0, 1, 2, 3, 4, 5, 6, 18, 19, 20, 21, 22, 23, 24, 25, 26] [0, 1, 2, 3, 4, 5, 6, 16, 17, 18, 19, 20, 21, 22, 23, 24, 25, 26, 7, 8, 9, 10, 11, 12, 13, 14, 15] rfl rfl (by decide) (by decide) (by decide) rfl rfl (by decide) (As := []) (rest := []) rfl rfl hl.1 (Nat.le_of_ble_eq_true rfl) dX7_classes_11 (k1 := 0) (n1 := 0) rfl rfl ⟨Nat.zero_le _, Nat.zero_le _⟩ (fun H locs hP hD hS => ?_)
    refine lv_istore_n (lv' := [(1, .int r6), (0, .ref (bF 0))]) hx hb dX7_classes_14 rfl hl (by decide) rfl (fun ls hl => ?_)
    refine lv_iconst (v := (0 : Int32)) hx hb dX7_classes_15 (by decide) ?_
    refine lv_istore_n (lv' := [(2, .int (0 : Int32)), (1, .int r6), (0, .ref (bF 0))]) hx hb dX7_classes_16 rfl hl (by decide) rfl (fun ls hl => ?_)
    refine lv_iconst (v := (0 : Int32)) hx hb dX7_classes_17 (by decide) ?_
    refine lv_istore_n (lv' := [(3, .int (0 : Int32)), (2, .int (0 : Int32)), (1, .int r6), (0, .ref (bF 0))]) hx hb dX7_classes_18 rfl hl (by decide) rfl (fun ls hl => ?_)
    have hL11 : ∀ (x2_8 : Int32) (x3_9 : Int32), lp (f_X7_classes_L19 vC nRF vF_1 vRF_2 vGF_3 vBF_4 r6) (fun _ _ => none) FU x2_8 x3_9 = some (r, vF1, vRF1, vGF1, vBF1) → ∀ (H : Heap) (locs : List Loc), va_P g.1 vwCl (cF g bF qF0 (bS 0) qF2 (bRF 0) qF4 vF_1 ++ (cS g bS (bC 0) qS1 ++ (cC g bC vC ++ (cR g bRF nRF (bGF 0) (bBF 0) vRF_2 ++ (cL g bGF vGF_3 ++ (cL g bBF vBF_4)))))) H → va_D A (cF g bF qF0 (bS 0) qF2 (bRF 0) qF4 vF_1 ++ (cS g bS (bC 0) qS1 ++ (cC g bC vC ++ (cR g bRF nRF (bGF 0) (bBF 0) vRF_2 ++ (cL g bGF vGF_3 ++ (cL g bBF vBF_4)))))) → va_S A s.heap H locs → ∀ ls : Array Slot, lv_has ls 4 [(0, .ref (bF 0)), (1, .int r6), (2, .int x2_8), (3, .int x3_9)] → W p l e (headSpec wsX7_classes rmX7_classes).room s m ([.ref (bF 0)] : List Value).toArray below meth c H locs 0 0 (MQ below (qI g A (cF g bF qF0 (bS 0) qF2 (bRF 0) qF4 vF1 ++ (cS g bS (bC 0) qS1 ++ (cC g bC vC ++ (cR g bRF nRF (bGF 0) (bBF 0) vRF1 ++ (cL g bGF vGF1 ++ (cL g bBF vBF1)))))) r) ([.ref (bF 0)] : List Value).toArray s 0 0 A) (F0 m 19 ls []) := by
      refine lp_ind (T := Int32 → Int32 → Option (Int32 × Vs × Vs × Vs × Vs)) (fun self10 => ∀ (x2_8 : Int32) (x3_9 : Int32), self10 x2_8 x3_9 = some (r, vF1, vRF1, vGF1, vBF1) → ∀ (H : Heap) (locs : List Loc), va_P g.1 vwCl (cF g bF qF0 (bS 0) qF2 (bRF 0) qF4 vF_1 ++ (cS g bS (bC 0) qS1 ++ (cC g bC vC ++ (cR g bRF nRF (bGF 0) (bBF 0) vRF_2 ++ (cL g bGF vGF_3 ++ (cL g bBF vBF_4)))))) H → va_D A (cF g bF qF0 (bS 0) qF2 (bRF 0) qF4 vF_1 ++ (cS g bS (bC 0) qS1 ++ (cC g bC vC ++ (cR g bRF nRF (bGF 0) (bBF 0) vRF_2 ++ (cL g bGF vGF_3 ++ (cL g bBF vBF_4)))))) → va_S A s.heap H locs → ∀ ls : Array Slot, lv_has ls 4 [(0, .ref (bF 0)), (1, .int r6), (2, .int x2_8), (3, .int x3_9)] → W p l e (headSpec wsX7_classes rmX7_classes).room s m ([.ref (bF 0)] : List Value).toArray below meth c H locs 0 0 (MQ below (qI g A (cF g bF qF0 (bS 0) qF2 (bRF 0) qF4 vF1 ++ (cS g bS (bC 0) qS1 ++ (cC g bC vC ++ (cR g bRF nRF (bGF 0) (bBF 0) vRF1 ++ (cL g bGF vGF1 ++ (cL g bBF vBF1)))))) r) ([.ref (bF 0)] : List Value).toArray s 0 0 A) (F0 m 19 ls [])) ?_ ?_ FU
      · intro x2_8 x3_9 hf; cases hf
      · intro self10 ih12 x2_8 x3_9 hf H locs hP hD hS ls hl
        unfold f_X7_classes_L19 at hf
        refine lv_iload_n hx hb dX7_classes_19 rfl (lv_at hl 3 rfl) ?_
        refine lv_iload_n hx hb dX7_classes_20 rfl (lv_at hl 1 rfl) ?_
        refine lv_icmp_ge (tgt := 42) hx hb dX7_classes_21 (by decide) (fun c13 => ?_) (fun c13 => ?_)
        · have hf := it_t hf c13
          refine lv_iload_n hx hb dX7_classes_42 rfl (lv_at hl 2 rfl) ?_
          obtain ⟨e14, e15, e16, e17, e18⟩ := kp_5 hf
          rw [e15] at hP hD
          rw [e16] at hP hD
          rw [e17] at hP hD
          rw [e18] at hP hD
          exact k_iret hx hb hr hlocks hK hP hD hS e14 dX7_classes_43
        · have hf := it_f hf c13
          refine lv_aload_n hx hb dX7_classes_24 rfl (lv_at hl 0 rfl) ?_
          refine lv_iload_n hx hb dX7_classes_25 rfl (lv_at hl 3 rfl) ?_
          obtain ⟨r19, hg20, hf⟩ := o1_at hf
          refine k_viP ⟨hx, hb, hml, hown, htu⟩ hK hP hD hS hA hG (c_X7_firstAlike l g bF qF0 qF2 qF4 vF_1 bS qS1 bC vC bRF nRF (bGF 0) (bBF 0) vRF_2 x3_9 r19 hg20) (cwV 1 htu (gU_V mw_2_144 hcX7_firstAlike) rfl rfl rfl hdX7_firstAlike ⟨Nat.le_of_ble_eq_true rfl, Nat.le_of_ble_eq_true rfl⟩) (q0 := 0) (ci := 7) (fs := fcF bF qF0 (bS 0) qF2 (bRF 0) qF4 vF_1) (q := (RX7, TX7, 12)) rfl rfl rfl (wr := (cL g bGF vGF_3 ++ (cL g bBF vBF_4))) (w2 := cF g bF qF0 (bS 0) qF2 (bRF 0) qF4 vF_1 ++ (cS g bS (bC 0) qS1 ++ (cC g bC vC ++ (cR g bRF nRF (bGF 0) (bBF 0) vRF_2 ++ (cL g bGF vGF_3 ++ (cL g bBF vBF_4)))))) [0, 1, 2, 3, 4, 5, 6, 7, 8, 9, 10, 11, 12, 13, 14, 15, 16, 17, 18, 19, 20] [21, 22, 23, 24, 25, 26] [6, 7, 8, 9, 10, 11, 12, 13, 14, 15, 16, 17, 18, 19, 20, 21, 22, 23, 24, 25, 26, 0, 1, 2, 3, 4, 5] rfl rfl (by decide) (by decide) (by decide) rfl rfl (by decide) (As := [.int x3_9]) (rest := []) rfl rfl hl.1 (Nat.le_of_ble_eq_true rfl) dX7_classes_26 (k1 := 0) (n1 := 0) rfl rfl ⟨Nat.zero_le _, Nat.zero_le _⟩ (fun H locs hP hD hS => ?_)
          refine lv_iload_n hx hb dX7_classes_29 rfl (lv_at hl 3 rfl) ?_
          obtain ⟨k22, hk24, hf⟩ := jn_at hf
          have hJ23 : ∀ (x2_21 : Int32), k22 x2_21 = some (r, vF1, vRF1, vGF1, vBF1) → ∀ (H : Heap) (locs : List Loc), va_P g.1 vwCl (cF g bF qF0 (bS 0) qF2 (bRF 0) qF4 vF_1 ++ (cS g bS (bC 0) qS1 ++ (cC g bC vC ++ (cR g bRF nRF (bGF 0) (bBF 0) vRF_2 ++ (cL g bGF vGF_3 ++ (cL g bBF vBF_4)))))) H → va_D A (cF g bF qF0 (bS 0) qF2 (bRF 0) qF4 vF_1 ++ (cS g bS (bC 0) qS1 ++ (cC g bC vC ++ (cR g bRF nRF (bGF 0) (bBF 0) vRF_2 ++ (cL g bGF vGF_3 ++ (cL g bBF vBF_4)))))) → va_S A s.heap H locs → ∀ ls : Array Slot, lv_has ls 4 [(0, .ref (bF 0)), (1, .int r6), (2, .int x2_21), (3, .int x3_9)] → W p l e (headSpec wsX7_classes rmX7_classes).room s m ([.ref (bF 0)] : List Value).toArray below meth c H locs 0 0 (MQ below (qI g A (cF g bF qF0 (bS 0) qF2 (bRF 0) qF4 vF1 ++ (cS g bS (bC 0) qS1 ++ (cC g bC vC ++ (cR g bRF nRF (bGF 0) (bBF 0) vRF1 ++ (cL g bGF vGF1 ++ (cL g bBF vBF1)))))) r) ([.ref (bF 0)] : List Value).toArray s 0 0 A) (F0 m 36 ls []) := by
            intro x2_21 hf H locs hP hD hS ls hl
            rw [hk24] at hf
            dsimp only at hf
            clear hk24
            refine lv_iinc (v := (x3_9 + (1 : Int32))) (lv' := [(3, .int (x3_9 + (1 : Int32))), (0, .ref (bF 0)), (1, .int r6), (2, .int x2_21)]) hx hb dX7_classes_36 hl (k := 3) rfl rfl (by decide) rfl (fun ls hl => ?_)
            refine lv_goto (tgt := 19) hx hb dX7_classes_39 (by decide) ?_
            exact ih12 x2_21 (x3_9 + (1 : Int32)) hf H locs hP hD hS _ (lv_sub hl [1, 2, 3, 0] rfl)
          refine lv_icmp_ne (tgt := 36) hx hb dX7_classes_30 (by decide) (fun c25 => ?_) (fun c25 => ?_)
          · have hf := it_f hf c25
            exact hJ23 x2_8 hf H locs hP hD hS _ (lv_sub hl [0, 1, 2, 3] rfl)
          · have hf := it_t hf c25
            refine lv_iinc (v := (x2_8 + (1 : Int32))) (lv' := [(2, .int (x2_8 + (1 : Int32))), (0, .ref (bF 0)), (1, .int r6), (3, .int x3_9)]) hx hb dX7_classes_33 hl (k := 2) rfl rfl (by decide) rfl (fun ls hl => ?_)
            exact hJ23 (x2_8 + (1 : Int32)) hf H locs hP hD hS _ (lv_sub hl [1, 2, 0, 3] rfl)
    exact hL11 (0 : Int32) (0 : Int32) hf H locs hP hD hS _ (lv_sub hl [3, 2, 1, 0] rfl)
  rw [hH, hlo] at hW
  exact hW
def f_X7_suspects (vF : Vs) (vC : Vs) (vT : Vs) (nRT : Nat) (vRT : Vs) (vG : Vs) (vB : Vs) : Option (Int32 × Vs × Vs × Vs × Vs) :=
  o5 (f_X7_listFitting vF vC vT nRT vRT vG vB) (fun (r1 : Int32) (vF_2 : Vs) (vRT_3 : Vs) (vG_4 : Vs) (vB_5 : Vs) => some (r1, vF_2, vRT_3, vG_4, vB_5))
abbrev wsX7_suspects : List Cond := .code yX7_suspects cX7_suspects 1 (some .int) :: UW
abbrev rmX7_suspects : Room := { frames := 5, cells := 0, slots := 0, locals := 127 }
set_option maxHeartbeats 4000000 in
set_option maxRecDepth 100000 in
theorem c_X7_suspects (l : Launch) (g : Gx) (bF : Nat → Nat) (qF0 : Nat) (qF2 : Nat) (qF3 : Nat) (vF : Vs) (bS : Nat → Nat) (bC : Nat → Nat) (vC : Vs) (bT : Nat → Nat) (vT : Vs) (bRT : Nat → Nat) (nRT : Nat) (vRT : Vs) (bG : Nat → Nat) (vG : Vs) (bB : Nat → Nat) (vB : Vs) (r : Int32) (vF1 : Vs) (vRT1 : Vs) (vG1 : Vs) (vB1 : Vs) (hf : f_X7_suspects vF vC vT nRT vRT vG vB = some (r, vF1, vRT1, vG1, vB1)) : CtI l yX7_suspects wsX7_suspects rmX7_suspects g [.ref (bF 0)] (cF g bF qF0 (bS 0) qF2 qF3 (bRT 0) vF ++ (cS g bS (bC 0) (bT 0) ++ (cC g bC vC ++ (cT g bT vT ++ (cR g bRT nRT (bG 0) (bB 0) vRT ++ (cL g bG vG ++ (cL g bB vB))))))) (cF g bF qF0 (bS 0) qF2 qF3 (bRT 0) vF1 ++ (cS g bS (bC 0) (bT 0) ++ (cC g bC vC ++ (cT g bT vT ++ (cR g bRT nRT (bG 0) (bB 0) vRT1 ++ (cL g bG vG1 ++ (cL g bB vB1))))))) r 0 0 := by
  unfold CtI
  intro sz
  refine Met.ofW (cc := cX7_suspects) (maxL := 1) (ret := (some .int)) (by decide) rfl ?_
  intro p e s m args below meth c s₁ B hml hv
  obtain ⟨rfl, hsz, hP, hK, hD0, hG⟩ := hv
  have hx := B.exec
  have hb := B.bytes
  have hr := B.returns
  have hts := atoms_spec (ws := wsX7_suspects) B.pre
  have hown : s.vm.findClass RX7 = some m.cls := findClass_of_methodNamed B.named
  have hlocks := B.notSynchronized
  subst hsz
  have hD := hD0.self (sz := s.heap.size)
  generalize hAe : va_A (cF g bF qF0 (bS 0) qF2 qF3 (bRT 0) vF ++ (cS g bS (bC 0) (bT 0) ++ (cC g bC vC ++ (cT g bT vT ++ (cR g bRT nRT (bG 0) (bB 0) vRT ++ (cL g bG vG ++ (cL g bB vB))))))) s.heap.size = A at hD hG ⊢
  have hA : ∀ q : Nat, s.heap.size ≤ q → A q := fun q h => by rw [← hAe]; exact Or.inr h
  clear hAe hD0
  have hS : va_S A s.heap s.heap [] := va_S.rf
  have hl := lv_entry ([.ref (bF 0)]) (n := 1) (Nat.le_of_ble_eq_true rfl)
  rw [lg_entry_eq]
  generalize (lg_sl ([.ref (bF 0)]) ++ List.replicate (1 - (lg_sl ([.ref (bF 0)])).length) Slot.unset).toArray = ls at hl ⊢
  have hl : lv_has ls 1 [(0, .ref (bF 0))] := hl
  have htu : ∀ w ∈ UW, w.before _ s = true := fun w h => hts w (List.mem_cons_of_mem _ h)
  unfold f_X7_suspects at hf
  obtain ⟨H, hH⟩ : ∃ z, z = s.heap := ⟨_, rfl⟩
  obtain ⟨locs, hlo⟩ : ∃ z : List Loc, z = [] := ⟨_, rfl⟩
  have hS : va_S A s.heap H locs := by rw [hH, hlo]; exact hS
  rw [← hH] at hP
  have hW : W p l e (headSpec wsX7_suspects rmX7_suspects).room s m ([.ref (bF 0)] : List Value).toArray below meth c H locs 0 0 (MQ below (qI g A (cF g bF qF0 (bS 0) qF2 qF3 (bRT 0) vF1 ++ (cS g bS (bC 0) (bT 0) ++ (cC g bC vC ++ (cT g bT vT ++ (cR g bRT nRT (bG 0) (bB 0) vRT1 ++ (cL g bG vG1 ++ (cL g bB vB1))))))) r) ([.ref (bF 0)] : List Value).toArray s 0 0 A) (F0 m 0 ls []) := by
    refine lv_aload_n hx hb dX7_suspects_0 rfl (lv_at hl 0 rfl) ?_
    obtain ⟨r1, vF_2, vRT_3, vG_4, vB_5, hg6, hf⟩ := o5_at hf
    refine k_viW ⟨hx, hb, hml, hown, htu⟩ hK hP hD hS hA hG (c_X7_listFitting l g bF qF0 qF2 qF3 vF bS bC vC bT vT bRT nRT vRT bG vG bB vB r1 vF_2 vRT_3 vG_4 vB_5 hg6) (cwV 0 htu (gU_V mw_2_184 hcX7_listFitting) rfl rfl rfl hdX7_listFitting ⟨Nat.le_of_ble_eq_true rfl, Nat.le_of_ble_eq_true rfl⟩) (q0 := 0) (ci := 7) (fs := fcF bF qF0 (bS 0) qF2 qF3 (bRT 0) vF) (q := (RX7, TX7, 12)) rfl rfl rfl (As := []) (rest := []) rfl rfl hl.1 (Nat.le_of_ble_eq_true rfl) dX7_suspects_1 (k1 := 0) (n1 := 0) rfl rfl ⟨Nat.zero_le _, Nat.zero_le _⟩ (fun H locs hP hD hS => ?_)
    obtain ⟨e7, e8, e9, e10, e11⟩ := kp_5 hf
    rw [e8] at hP hD
    rw [e9] at hP hD
    rw [e10] at hP hD
    rw [e11] at hP hD
    exact k_iret hx hb hr hlocks hK hP hD hS e7 dX7_suspects_4
  rw [hH, hlo] at hW
  exact hW
